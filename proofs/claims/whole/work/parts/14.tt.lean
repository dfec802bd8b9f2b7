/-! The program's object and its rows. -/
abbrev rmD (d : Nat) : Room := { frames := d, cells := 0, slots := 0, locals := 40 * d }
abbrev tys_T (C : Nat → ClassId) : List (ClassId × FieldType) := [(C 0, .byte), (C 1, .int), (C 2, .int), (C 3, .int), (C 4, .int), (C 5, .int)]
abbrev tt (P : Nat → Nat) (C : Nat → ClassId) (N : Nat) (fb : Nat → Int32) (g : Nat → Nat) (fn ft : Nat → Int32) (fs fl : Nat → Nat) (w wi now : Nat) (on : Bool) (ts tl lf ll : Nat) : va_W :=
  [(P 0, .inr (0, [.ref (P 1), .ref (P 2), .ref (P 3), .ref (P 4), .ref (P 5), .ref (P 6), .int (nI w), .int (nI wi), .int (nI now), .int (bI on), .int (nI ts), .int (nI tl), .int (nI lf), .int (nI ll)])),
   (P 1, .inl (C 0, 512, .inl fb)), (P 2, .inl (C 1, N, .inl (fun j => nI (g j)))), (P 3, .inl (C 2, N, .inl fn)), (P 4, .inl (C 3, N, .inl ft)), (P 5, .inl (C 4, N, .inl (fun j => nI (fs j)))), (P 6, .inl (C 5, N, .inl (fun j => nI (fl j))))]
section XGP
variable {p : Program} {l : Launch} {e : Env} {R : Room} {s : State} {m : MethodId} {args : Array Value} {below : List Frame} {meth : Method} {c : Code} {H : Heap} {locs : List Loc} {cells slots : Nat} {Q : State → Prop}
variable {cc : ByteArray} {pc : Nat} {ls : Array Slot} {rest : List Value} {D : va_G} {A : Nat → Prop} {tys : List (ClassId × FieldType)} {w0 : va_W} {H0 : Heap} {a idx : Nat} {fv : List Value} {v : Value}
theorem xg (hx : p.tables.exec = Jvm.exec) (hb : c.code = cc) (hts : ∀ w ∈ lw_g, w.before args s = true) (hown : s.vm.findClass R_TT = some m.cls) (hK : va_K D classes tys s) (hP : va_P D classes w0 H) (he : w0[0]? = some (a, .inr (0, fv))) (k : Nat) (hk : k < 14) (hr : (F_TT k).1 = R_TT) (hl : Cond.fieldLink R_TT idx R_TT (F_TT k).2.1 (F_TT k).2.2.1 ∈ lw_g) (hv : fv[k]? = some v) (hd : decode cc pc = .ok (.getfield idx, 3))
    (kk : W p l e R s m args below meth c H locs cells slots Q (F0 m (pc + 3) ls (v :: rest))) : W p l e R s m args below meth c H locs cells slots Q (F0 m pc ls (.ref a :: rest)) :=
  va_get (D := D) (ci := 0) (C := R_TT) (T := F_TT) (N := 14) hx hb hts i_TT hown hK hP 0 he rfl k hk (hts _ hl) (fun _ h => by rw [hr] at h; exact h) hv hd kk
theorem xp (hx : p.tables.exec = Jvm.exec) (hb : c.code = cc) (hts : ∀ w ∈ lw_g, w.before args s = true) (hown : s.vm.findClass R_TT = some m.cls) (hK : va_K D classes tys s) (hP : va_P D classes w0 H) (hD : va_D A w0) (hS : va_S A H0 H locs) (he : w0[0]? = some (a, .inr (0, fv))) (k : Nat) (hk : k < 14) (hr : (F_TT k).1 = R_TT) (hl : Cond.fieldLink R_TT idx R_TT (F_TT k).2.1 (F_TT k).2.2.1 ∈ lw_g) (hfin : (F_TT k).2.2.2 = false) {ty : FieldType} (hty : parseFieldDescriptor (F_TT k).2.2.1 = some ty) (hn : narrow ty v = v) (hf : fits ty v = true) (hlen : k < fv.length) (w1 : va_W) (hw : w0.set 0 (a, .inr (0, fv.set k v)) = w1) (hd : decode cc pc = .ok (.putfield idx, 3))
    (kk : ∀ (H1 : Heap) (locs1 : List Loc), va_P D classes w1 H1 → va_D A w1 → va_S A H0 H1 locs1 → W p l e R s m args below meth c H1 locs1 cells slots Q (F0 m (pc + 3) ls rest)) : W p l e R s m args below meth c H locs cells slots Q (F0 m pc ls (v :: .ref a :: rest)) := by
  subst hw
  exact va_put (D := D) (ci := 0) (C := R_TT) (T := F_TT) (N := 14) hx hb hts i_TT t_TT t_TT_ok n_TT hown hK hP hD hS 0 he rfl k hk (hts _ hl) (fun _ h => by rw [hr] at h; exact h) hfin hty hn hf hlen hd kk
end XGP
