/-! The reference's rows hold the entries as they came (A). -/
def em (bt nu ti : Nat → Int32) (si ro sq : Nat → Nat) (j : Nat) : Ent := (nu j, ti j, by_L bt (256 * ro j) (si j), sq j)
def RA (bt : Nat → Int32) (al : Nat) (v : MS) (A : List Ent) : Prop :=
  v.2.2.2.2.2 ≤ 1024 ∧ (∀ j, j < v.2.2.2.2.2 → v.2.2.2.1 j < 1024 ∧ v.2.2.1 j ≤ 256) ∧ (∀ i j, i < v.2.2.2.2.2 → j < v.2.2.2.2.2 → v.2.2.2.1 i = v.2.2.2.1 j → i = j) ∧ (∀ r, v.2.2.2.2.1 r = true → ∃ j, j < v.2.2.2.2.2 ∧ v.2.2.2.1 j = r) ∧ (∀ j, j < v.2.2.2.2.2 → v.2.2.2.2.1 (v.2.2.2.1 j) = true) ∧
  ∃ sq : Nat → Nat, (∀ i j, i < j → j < v.2.2.2.2.2 → sq i < sq j) ∧ (∀ j, j < v.2.2.2.2.2 → sq j < al) ∧ A = (List.range v.2.2.2.2.2).map (em bt v.1 v.2.1 v.2.2.1 v.2.2.2.1 sq)
section RAS
variable {bt : Nat → Int32} {al : Nat} {v : MS} {A : List Ent}
theorem ra_len (h : RA bt al v A) : A.length = v.2.2.2.2.2 := by
  obtain ⟨-, -, -, -, -, sq, -, -, rfl⟩ := h
  simp
theorem ra_nd (h : RA bt al v A) : e_nd A := by
  obtain ⟨-, -, -, -, -, sq, s1, -, rfl⟩ := h
  refine List.pairwise_map.mpr (List.Pairwise.imp_of_mem (fun {a b} ha hb hab => ?_) List.pairwise_lt_range)
  have := s1 a b hab (List.mem_range.mp hb)
  show sq a ≠ sq b
  omega
theorem dp_at {α : Type} (f : Nat → α) (i k j : Nat) : dp f i k j = f (if i ≤ j ∧ j < k then j + 1 else j) := by
  unfold dp
  split <;> rfl
theorem ra_dp (h : RA bt al v A) {i : Nat} (hi : i < v.2.2.2.2.2) : RA bt al (m_dp v i) (A.eraseIdx i) := by
  obtain ⟨nu, ti, si, ro, us, w⟩ := v
  obtain ⟨h1, h2, h3, h4, h5, sq, s1, s2, rfl⟩ := h
  dsimp only at h1 h2 h3 h4 h5 s1 s2 hi ⊢
  have key : ∀ j, j < w - 1 → ∃ k, k < w ∧ k = (if i ≤ j ∧ j < w - 1 then j + 1 else j) ∧ k ≠ i ∧ ((i ≤ j ∧ k = j + 1) ∨ (j < i ∧ k = j)) := by
    intro j hj
    by_cases q : i ≤ j
    · exact ⟨j + 1, by omega, by rw [if_pos ⟨q, hj⟩], by omega, Or.inl ⟨q, rfl⟩⟩
    · exact ⟨j, by omega, by rw [if_neg (fun z => q z.1)], by omega, Or.inr ⟨by omega, rfl⟩⟩
  refine ⟨by show w - 1 ≤ 1024; omega, ?_, ?_, ?_, ?_, dp sq i (w - 1), ?_, ?_, ?_⟩
  · intro j hj
    obtain ⟨k, k1, k2, -⟩ := key j hj
    show dp ro i (w - 1) j < 1024 ∧ dp si i (w - 1) j ≤ 256
    rw [dp_at, dp_at, ← k2]
    exact h2 k k1
  · intro a b ha hb e
    obtain ⟨k, k1, k2, k3, k4⟩ := key a ha
    obtain ⟨m, m1, m2, m3, m4⟩ := key b hb
    have e : dp ro i (w - 1) a = dp ro i (w - 1) b := e
    rw [dp_at, dp_at, ← k2, ← m2] at e
    have := h3 k m k1 m1 e
    omega
  · intro r hr
    have hr : va_up us (ro i) false r = true := hr
    unfold va_up at hr
    by_cases q : r = ro i
    · rw [if_pos q] at hr; exact absurd hr (by decide)
    · rw [if_neg q] at hr
      obtain ⟨j, j1, j2⟩ := h4 r hr
      have hji : j ≠ i := fun z => q (by rw [← j2, z])
      by_cases z : i ≤ j
      · refine ⟨j - 1, by show j - 1 < w - 1; omega, ?_⟩
        show dp ro i (w - 1) (j - 1) = r
        rw [dp_at, if_pos (by omega), show j - 1 + 1 = j by omega]
        exact j2
      · refine ⟨j, by show j < w - 1; omega, ?_⟩
        show dp ro i (w - 1) j = r
        rw [dp_at, if_neg (by omega)]
        exact j2
  · intro j hj
    obtain ⟨k, k1, k2, k3, k4⟩ := key j hj
    show va_up us (ro i) false (dp ro i (w - 1) j) = true
    rw [dp_at, ← k2]
    unfold va_up
    rw [if_neg (fun z => k3 (h3 k i k1 hi z))]
    exact h5 k k1
  · intro a b hab hb
    obtain ⟨k, k1, k2, k3, k4⟩ := key a (by have hb : b < w - 1 := hb; omega)
    obtain ⟨m, m1, m2, m3, m4⟩ := key b hb
    rw [dp_at, dp_at, ← k2, ← m2]
    exact s1 k m (by omega) m1
  · intro j hj
    obtain ⟨k, k1, k2, -⟩ := key j hj
    rw [dp_at, ← k2]
    exact s2 k k1
  · show _ = (List.range (w - 1)).map (em bt (dp nu i (w - 1)) (dp ti i (w - 1)) (dp si i (w - 1)) (dp ro i (w - 1)) (dp sq i (w - 1)))
    apply List.ext_getElem?
    intro j
    rw [List.getElem?_eraseIdx]
    by_cases hj : j < w - 1
    · obtain ⟨k, k1, k2, k3, k4⟩ := key j hj
      have e2 : ((List.range (w - 1)).map (em bt (dp nu i (w - 1)) (dp ti i (w - 1)) (dp si i (w - 1)) (dp ro i (w - 1)) (dp sq i (w - 1))))[j]? = some (em bt nu ti si ro sq k) := by
        rw [List.getElem?_map, List.getElem?_range hj]
        show some (em bt (dp nu i (w - 1)) (dp ti i (w - 1)) (dp si i (w - 1)) (dp ro i (w - 1)) (dp sq i (w - 1)) j) = _
        unfold em
        rw [dp_at nu, dp_at ti, dp_at si, dp_at ro, dp_at sq, ← k2]
      rw [e2]
      rcases k4 with ⟨q1, q2⟩ | ⟨q1, q2⟩
      · rw [if_neg (by omega), List.getElem?_map, List.getElem?_range (by omega), q2]
        rfl
      · rw [if_pos q1, List.getElem?_map, List.getElem?_range (by omega), q2]
        rfl
    · rw [List.getElem?_eq_none (l := (List.range (w - 1)).map _) (by simp; omega)]
      by_cases q : j < i
      · omega
      · rw [if_neg q, List.getElem?_eq_none (by simp; omega)]
theorem ra_rm (pr : Int32 → Int32 → Bool) : ∀ (n : Nat) (v : MS) (q : Nat) (A : List Ent), RA bt al v A → n ≤ v.2.2.2.2.2 → RA bt al (m_rm pr n v q).1 ((A.take n).filter (fun e => !(pr e.1 e.2.1)) ++ A.drop n) ∧ (m_rm pr n v q).2 = q + ((A.take n).filter (fun e => pr e.1 e.2.1)).length := by
  intro n
  induction n with
  | zero => intro v q A h _; exact ⟨by simpa [m_rm] using h, by simp [m_rm]⟩
  | succ n ih =>
    intro v q A h hn
    have hl := ra_len h
    have hx : ∃ x, A[n]? = some x ∧ x.1 = v.1 n ∧ x.2.1 = v.2.1 n := by
      obtain ⟨-, -, -, -, -, sq, -, -, rfl⟩ := h
      exact ⟨em bt v.1 v.2.1 v.2.2.1 v.2.2.2.1 sq n, by rw [List.getElem?_map, List.getElem?_range (by omega)]; rfl, rfl, rfl⟩
    obtain ⟨x, hx, e1, e2⟩ := hx
    have ht : A.take (n + 1) = A.take n ++ [x] := by rw [List.take_succ, hx]; rfl
    have hd : A.drop n = x :: A.drop (n + 1) := by
      have hlt : n < A.length := by omega
      rw [List.drop_eq_getElem_cons hlt]
      rw [List.getElem?_eq_getElem hlt] at hx
      rw [Option.some.inj hx]
    rw [m_rm, ht, List.filter_append, List.filter_append]
    by_cases hp : pr (v.1 n) (v.2.1 n) = true
    · rw [if_pos hp]
      obtain ⟨r1, r2⟩ := ih (m_dp v n) (q + 1) (A.eraseIdx n) (ra_dp h (by omega)) (by show n ≤ v.2.2.2.2.2 - 1; omega)
      have f1 : [x].filter (fun e => !(pr e.1 e.2.1)) = [] := by simp [e1, e2, hp]
      have f2 : [x].filter (fun e => pr e.1 e.2.1) = [x] := by simp [e1, e2, hp]
      have t1 : (A.eraseIdx n).take n = A.take n := by rw [List.eraseIdx_eq_take_drop_succ, List.take_append_of_le_length (by rw [List.length_take]; omega), List.take_take, Nat.min_self]
      have t2 : (A.eraseIdx n).drop n = A.drop (n + 1) := by
        rw [List.eraseIdx_eq_take_drop_succ, List.drop_append_of_le_length (by rw [List.length_take]; omega), List.drop_take, Nat.sub_self, List.take_zero, List.nil_append]
      rw [f1, f2, List.append_nil]
      rw [t1, t2] at r1
      rw [t1] at r2
      refine ⟨r1, ?_⟩
      rw [r2, List.length_append]
      simp only [List.length_singleton]
      omega
    · rw [if_neg hp]
      have hp : pr (v.1 n) (v.2.1 n) = false := by simpa using hp
      obtain ⟨r1, r2⟩ := ih v q A h (by omega)
      have f1 : [x].filter (fun e => !(pr e.1 e.2.1)) = [x] := by simp [e1, e2, hp]
      have f2 : [x].filter (fun e => pr e.1 e.2.1) = [] := by simp [e1, e2, hp]
      rw [f1, f2, List.append_nil]
      refine ⟨?_, r2⟩
      rw [List.append_assoc, List.singleton_append, ← hd]
      exact r1
theorem ra_rm_all (h : RA bt al v A) (pr : Int32 → Int32 → Bool) : RA bt al (m_rm pr v.2.2.2.2.2 v 0).1 (A.filter (fun e => !(pr e.1 e.2.1))) ∧ (m_rm pr v.2.2.2.2.2 v 0).2 = (A.filter (fun e => pr e.1 e.2.1)).length := by
  have hl := ra_len h
  obtain ⟨r1, r2⟩ := ra_rm (bt := bt) (al := al) pr v.2.2.2.2.2 v 0 A h (Nat.le_refl _)
  rw [← hl, List.take_length, List.drop_length, List.append_nil] at r1
  rw [← hl, List.take_length, Nat.zero_add] at r2
  rw [← hl]
  exact ⟨r1, r2⟩
theorem ra_rs : ∀ (n : Nat) (v : MS) (A : List Ent), RA bt al v A → n = v.2.2.2.2.2 → RA bt al (m_rs n v) [] := by
  intro n
  induction n with
  | zero =>
    intro v A h hn
    have hl := ra_len h
    rw [← hn] at hl
    rw [List.eq_nil_of_length_eq_zero hl] at h
    exact h
  | succ n ih =>
    intro v A h hn
    rw [m_rs]
    exact ih (m_dp v n) _ (ra_dp h (by omega)) (by show n = v.2.2.2.2.2 - 1; omega)
theorem ra_free (h : RA bt al v A) (hw : v.2.2.2.2.2 < 1024) : ∃ r0, r0 < 1024 ∧ v.2.2.2.2.1 r0 = false ∧ ∀ j, j < r0 → v.2.2.2.2.1 j = true := by
  obtain ⟨h1, h2, h3, h4, h5, -⟩ := h
  have hex : ∃ r, v.2.2.2.2.1 r = false ∧ r < 1024 := by
    refine Classical.byContradiction (fun hno => ?_)
    have hall : ∀ r, r < 1024 → v.2.2.2.2.1 r = true := fun r hr => by
      cases hu : v.2.2.2.2.1 r with
      | true => rfl
      | false => exact absurd ⟨r, hu, hr⟩ hno
    have hsub : List.range 1024 ⊆ sl v.2.2.2.2.2 v.2.2.2.1 := fun r hr => by
      obtain ⟨j, j1, j2⟩ := h4 r (hall r (List.mem_range.mp hr))
      exact sl_mem.mpr ⟨j, j1, j2⟩
    have := List.Nodup.length_le_of_subset List.nodup_range hsub
    rw [List.length_range, sl_len] at this
    omega
  obtain ⟨r0, p1, p2⟩ := pk_least (fun r => v.2.2.2.2.1 r = false) ⟨hex.choose, hex.choose_spec.1⟩
  refine ⟨r0, ?_, p1, fun j hj => by simpa using p2 j hj⟩
  have hc := hex.choose_spec
  refine Nat.lt_of_le_of_lt ?_ hc.2
  exact Nat.not_lt.mp (fun z => p2 _ z hc.1)
end RAS
theorem a_so_p {L M : List Ent} (hp : L.Perm M) (hn : e_nd M) : a_so L = a_so M := a_so_eq ((a_so_perm L).trans hp) (a_so_srt L) hn
theorem e_nd_p {L M : List Ent} (hp : L.Perm M) (hn : e_nd L) : e_nd M := List.Pairwise.perm hn hp (fun h => Ne.symm h)
theorem a_so_f (p : Ent → Bool) {L : List Ent} (hn : e_nd L) : (a_so L).filter p = a_so (L.filter p) := a_so_eq ((a_so_perm L).filter p) (List.Pairwise.filter _ (a_so_srt L)) (List.Pairwise.filter _ hn)
/-- in order, as many are ahead of one as its place says -/
theorem a_pos : ∀ (E : List Ent), e_srt E → e_nd E → ∀ (p : Nat) (x : Ent), E[p]? = some x → E.countP (fun e => e_lt e x) = p := by
  intro E
  induction E with
  | nil => intro _ _ p x h; simp at h
  | cons y r ih =>
    intro hs hn p x h
    obtain ⟨s1, s2⟩ := List.pairwise_cons.mp hs
    obtain ⟨n1, n2⟩ := List.pairwise_cons.mp hn
    rw [List.countP_cons]
    cases p with
    | zero =>
      have hx : y = x := by simpa using h
      subst hx
      have h1 : r.countP (fun e => e_lt e y) = 0 := List.countP_eq_zero.mpr (fun e he => by rw [s1 e he]; decide)
      have h2 : e_lt y y = false := by rw [e_ge_iff]; omega
      rw [h1, h2]
      rfl
    | succ p =>
      have hx : r[p]? = some x := by simpa using h
      have hm : x ∈ r := List.mem_of_getElem? hx
      have h2 : e_lt y x = true := by
        have q1 := (e_ge_iff y x).mp (s1 x hm)
        have q2 := n1 x hm
        rw [e_lt_iff]
        omega
      rw [ih s2 n2 p x hx, h2]
      rfl
