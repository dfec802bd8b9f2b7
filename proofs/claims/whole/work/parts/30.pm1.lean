/-! Pure: what the reference's methods do. -/
theorem upd_bI (g : Nat → Bool) (k : Nat) (v : Bool) : upd (fun j => bI (g j)) k (vp_nar .boolean (bI v)) = fun j => bI (va_up g k v j) := by
  funext j
  have e : vp_nar .boolean (bI v) = bI v := by cases v <;> rfl
  unfold upd va_up
  rw [e]
  split <;> rfl
def oI (o : Option Nat) : Int32 := match o with
  | none => -1
  | some i => nI i
def bf_M (ti : Nat → Int32) (j i : Nat) : Bool := decide (ti j < ti i) || (decide (ti j = ti i) && decide (j < i))
theorem bf_M1 {ti : Nat → Int32} {j i : Nat} (h : ti j < ti i) : bf_M ti j i = true := by simp [bf_M, h]
theorem bf_M2 {ti : Nat → Int32} {j i : Nat} (h : ¬ ti j < ti i) (h2 : ¬ ti j = ti i) : bf_M ti j i = false := by
  unfold bf_M
  rw [decide_eq_false h, decide_eq_false h2]
  rfl
theorem bf_M3 {ti : Nat → Int32} {j i : Nat} (h2 : ti j = ti i) (h3 : ¬ i ≤ j) : bf_M ti j i = true := by
  unfold bf_M
  rw [decide_eq_true h2, decide_eq_true (show j < i by omega)]
  simp
theorem bf_M4 {ti : Nat → Int32} {j i : Nat} (h : ¬ ti j < ti i) (h3 : i ≤ j) : bf_M ti j i = false := by
  unfold bf_M
  rw [decide_eq_false h, decide_eq_false (show ¬ j < i by omega)]
  simp
def pl_i (ti : Nat → Int32) (i : Nat) : Nat → Nat → Nat → Nat
  | 0, _, q => q
  | n + 1, j, q => if bf_M ti j i = true then pl_i ti i n (j + 1) (q + 1) else pl_i ti i n (j + 1) q
def pl_o (ti : Nat → Int32) (kk w : Nat) : Nat → Nat → Option Nat → Option Nat
  | 0, _, o => o
  | n + 1, i, o => if pl_i ti i w 0 0 = kk then pl_o ti kk w n (i + 1) (some i) else pl_o ti kk w n (i + 1) o
def dp {α : Type} (f : Nat → α) (i k : Nat) : Nat → α := fun j => if i ≤ j ∧ j < k then f (j + 1) else f j
theorem dp_0 {α : Type} (f : Nat → α) (i : Nat) : dp f i i = f := by
  funext j
  unfold dp
  rw [if_neg (by omega)]
theorem dp_k {α : Type} (f : Nat → α) {i k : Nat} : dp f i k (k + 1) = f (k + 1) := by
  unfold dp
  rw [if_neg (by omega)]
theorem dp_u (f : Nat → Int32) {i k : Nat} (h : i ≤ k) : upd (dp f i k) k (dp f i k (k + 1)) = dp f i (k + 1) := by
  rw [dp_k]
  funext j
  unfold upd dp
  by_cases q : j = k
  · subst q
    rw [if_pos rfl, if_pos (by omega)]
  · rw [if_neg q]
    by_cases z : i ≤ j ∧ j < k
    · rw [if_pos z, if_pos (by omega)]
    · rw [if_neg z, if_neg (by omega)]
theorem dp_v (f : Nat → Nat) {i k : Nat} (h : i ≤ k) : va_up (dp f i k) k (dp f i k (k + 1)) = dp f i (k + 1) := by
  rw [dp_k]
  funext j
  unfold va_up dp
  by_cases q : j = k
  · subst q
    rw [if_pos rfl, if_pos (by omega)]
  · rw [if_neg q]
    by_cases z : i ≤ j ∧ j < k
    · rw [if_pos z, if_pos (by omega)]
    · rw [if_neg z, if_neg (by omega)]
/-- k bytes from a on -/
def cp (f h : Nat → Int32) (a k : Nat) : Nat → Int32 := fun j => if a ≤ j ∧ j < a + k then vp_nar .byte (h (j - a)) else f j
theorem cp_0 (f h : Nat → Int32) (a : Nat) : cp f h a 0 = f := by
  funext j
  unfold cp
  rw [if_neg (by omega)]
theorem cp_s (f h : Nat → Int32) (a k : Nat) : upd (cp f h a k) (a + k) (vp_nar .byte (h k)) = cp f h a (k + 1) := by
  funext j
  unfold upd cp
  by_cases q : j = a + k
  · subst q
    rw [if_pos rfl, if_pos (by omega), show a + k - a = k by omega]
  · rw [if_neg q]
    by_cases z : a ≤ j ∧ j < a + k
    · rw [if_pos z, if_pos (by omega)]
    · rw [if_neg z, if_neg (by omega)]
def im (n : Nat) : Int32 := nI n - 1
theorem im_s (n : Nat) : im (n + 1) = nI n := nI_pred n
theorem im_0 : im 0 < 0 := by decide
theorem im_d (n : Nat) : nI n + (-1) = im n := by
  cases n with
  | zero => decide
  | succ n => rw [im_s, pk_m1]
abbrev MS : Type := (Nat → Int32) × (Nat → Int32) × (Nat → Nat) × (Nat → Nat) × (Nat → Bool) × Nat
def m_dp (u : MS) (i : Nat) : MS := (dp u.1 i (u.2.2.2.2.2 - 1), dp u.2.1 i (u.2.2.2.2.2 - 1), dp u.2.2.1 i (u.2.2.2.2.2 - 1), dp u.2.2.2.1 i (u.2.2.2.2.2 - 1), va_up u.2.2.2.2.1 (u.2.2.2.1 i) false, u.2.2.2.2.2 - 1)
def m_rm (pr : Int32 → Int32 → Bool) : Nat → MS → Nat → MS × Nat
  | 0, u, q => (u, q)
  | n + 1, u, q => if pr (u.1 n) (u.2.1 n) = true then m_rm pr n (m_dp u n) (q + 1) else m_rm pr n u q
def m_rs : Nat → MS → MS
  | 0, u => u
  | n + 1, u => m_rs n (m_dp u n)
theorem dp_lt {f : Nat → Nat} {i w B : Nat} (h : ∀ j, j < w → f j < B) : ∀ j, j < w - 1 → dp f i (w - 1) j < B := by
  intro j hj
  unfold dp
  split
  · exact h (j + 1) (by omega)
  · exact h j (by omega)
def mm_q (f t b : Int32) : Nat → Nat → (Nat → Int32) → Nat → Nat
  | 0, _, _, q => q
  | n + 1, k, ti, q => if in_S ti f t k = true then mm_q f t b n (k + 1) (upd ti k (ti k + b)) (q + 1) else mm_q f t b n (k + 1) ti q
def mp_R (tx : Nat → Int32) (tl : Nat) (b : Int32) : Int32 × (Nat → Int32) × Nat := if tl = 256 then (-1, tx, tl) else (nI (tl + 1), upd tx tl (vp_nar .byte b.toInt8.toInt32), tl + 1)
def mi_R (r0 N : Nat) (tx nu ti : Nat → Int32) (si ro : Nat → Nat) (us : Nat → Bool) (bt : Nat → Int32) (w al now tl : Nat) (n t : Int32) : (Nat → Int32) × (Nat → Int32) × (Nat → Nat) × (Nat → Nat) × (Nat → Bool) × (Nat → Int32) × Nat × Nat :=
  if wh_F tl now t w N = 0 then (upd nu w n, upd ti w t, va_up si w tl, va_up ro w r0, va_up us r0 true, cp bt tx (256 * r0) tl, w + 1, al + 1) else (nu, ti, si, ro, us, bt, w, al)
def ml_R (lx nu ti : Nat → Int32) (si ro : Nat → Nat) (us : Nat → Bool) (bt : Nat → Int32) (w now ll : Nat) : Int32 × (Nat → Int32) × Nat × MS := match pl_o ti 0 w w 0 none with
  | none => (-1, lx, ll, nu, ti, si, ro, us, w)
  | some i => if ti i ≤ nI now then (nI (si i), cp lx (fun k => bt (256 * ro i + k)) 0 (si i), si i, m_dp (nu, ti, si, ro, us, w) i) else (-1, lx, ll, nu, ti, si, ro, us, w)
theorem pl_lt (ti : Nat → Int32) (kk w : Nat) : ∀ (n i : Nat) (o : Option Nat), i + n = w → (∀ j, o = some j → j < w) → ∀ j, pl_o ti kk w n i o = some j → j < w := by
  intro n
  induction n with
  | zero => intro i o _ h j e; exact h j e
  | succ n ih =>
    intro i o hi h j e
    rw [pl_o] at e
    split at e
    · exact ih (i + 1) (some i) (by omega) (fun j e => by cases e; omega) j e
    · exact ih (i + 1) o (by omega) h j e
/-- the place of the k-th, if there is one -/
def pl_F (ti : Nat → Int32) (w : Nat) (k : Int32) : Option Nat := if iw_F w k = true then pl_o ti k.toNatClampNeg w w 0 none else none
def ma_F (nu ti : Nat → Int32) (si : Nat → Nat) (w : Nat) (k j : Int32) : Int32 := match pl_F ti w k with
  | none => -1
  | some i => if j = 0 then nu i else if j = 1 then ti i else if j = 2 then nI (si i) else -1
def mb_F (bt ti : Nat → Int32) (si ro : Nat → Nat) (w : Nat) (k j : Int32) : Int32 := match pl_F ti w k with
  | none => -1
  | some i => bo_F bt (256 * ro i) (si i) j
