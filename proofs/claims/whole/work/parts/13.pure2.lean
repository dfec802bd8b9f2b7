/-! Pure: what the small methods answer. -/
def bI (b : Bool) : Int32 := bif b then 1 else 0
theorem bI_n (b : Bool) : narrow .boolean (.int (bI b)) = .int (bI b) := by cases b <;> rfl
theorem bI_f (b : Bool) : fits .boolean (.int (bI b)) = true := by cases b <;> rfl
theorem bI_0 {b : Bool} (h : bI b = 0) : b = false := by cases b <;> first | rfl | (exact absurd h (by decide))
theorem bI_1 {b : Bool} (h : ¬ bI b = 0) : b = true := by cases b <;> first | rfl | (exact absurd rfl h)
def in_S (ft : Nat → Int32) (f t : Int32) (i : Nat) : Bool := decide (f ≤ ft i) && decide (ft i ≤ t)
theorem in_S_f1 {ft : Nat → Int32} {f t : Int32} {i : Nat} (h : ft i < f) : in_S ft f t i = false := by
  have : ¬ f ≤ ft i := Int32.not_le.mpr h
  simp [in_S, this]
theorem in_S_f2 {ft : Nat → Int32} {f t : Int32} {i : Nat} (h : t < ft i) : in_S ft f t i = false := by
  have : ¬ ft i ≤ t := Int32.not_le.mpr h
  simp [in_S, this]
theorem in_S_t {ft : Nat → Int32} {f t : Int32} {i : Nat} (h : ¬ ft i < f) (h2 : ¬ t < ft i) : in_S ft f t i = true := by
  have h3 : f ≤ ft i := Int32.not_lt.mp h
  have h4 : ft i ≤ t := Int32.not_lt.mp h2
  simp [in_S, h3, h4]
def be_F (ft : Nat → Int32) (fs : Nat → Nat) (i j : Nat) : Bool := if ft i = ft j then decide (fs i < fs j) else decide (ft i < ft j)
theorem be_1 {ft : Nat → Int32} {fs : Nat → Nat} {i j : Nat} (h : ¬ ft i = ft j) (h2 : ft i < ft j) : be_F ft fs i j = true := by rw [be_F, if_neg h]; simp [h2]
theorem be_0 {ft : Nat → Int32} {fs : Nat → Nat} {i j : Nat} (h : ¬ ft i = ft j) (h2 : ft j ≤ ft i) : be_F ft fs i j = false := by
  rw [be_F, if_neg h]
  have : ¬ ft i < ft j := Int32.not_lt.mpr h2
  simp [this]
theorem be_2 {ft : Nat → Int32} {fs : Nat → Nat} {i j : Nat} (h : ft i = ft j) (h2 : fs j ≤ fs i) : be_F ft fs i j = false := by
  rw [be_F, if_pos h]
  have : ¬ fs i < fs j := by omega
  simp [this]
theorem be_3 {ft : Nat → Int32} {fs : Nat → Nat} {i j : Nat} (h : ft i = ft j) (h2 : fs i < fs j) : be_F ft fs i j = true := by rw [be_F, if_pos h]; simp [h2]
theorem be_ok (ft : Nat → Int32) (fs : Nat → Nat) : bf_ok (be_F ft fs) := by
  have hf : ∀ a b, be_F ft fs b a = false ↔ ((ft a).toInt < (ft b).toInt ∨ ((ft a).toInt = (ft b).toInt ∧ fs a ≤ fs b)) := by
    intro a b
    by_cases h : ft b = ft a
    · rw [be_F, if_pos h, h]
      simp
    · rw [be_F, if_neg h]
      have h1 : ¬ (ft b).toInt = (ft a).toInt := fun q => h (Int32.toInt_inj.mp q)
      simp only [decide_eq_false_iff_not, Int32.lt_iff_toInt_lt]
      omega
  have ht : ∀ a b, be_F ft fs a b = true → ¬ ((ft b).toInt < (ft a).toInt ∨ ((ft b).toInt = (ft a).toInt ∧ fs b ≤ fs a)) := by
    intro a b h q
    rw [(hf b a).mpr q] at h
    exact absurd h (by decide)
  refine ⟨fun a b h => (hf a b).mpr ?_, fun a b c h1 h2 => (hf a c).mpr ?_⟩
  · have := ht a b h
    omega
  · have h1 := (hf a b).mp h1
    have h2 := (hf b c).mp h2
    omega
theorem lg_le {x y : Int64} : lg_cmp x y ≤ 0 ↔ ¬ y < x := by
  unfold lg_cmp
  by_cases h : y < x
  · simp [h]
  · by_cases h2 : x = y <;> simp [h, h2]
theorem lg_gt {x y : Int64} : 0 < lg_cmp x y ↔ y < x := by
  unfold lg_cmp
  by_cases h : y < x
  · simp [h]
  · by_cases h2 : x = y <;> simp [h, h2]
def cm_F (ft : Nat → Int32) (now : Nat) (b : Int32) (i : Nat) : Bool := decide ((nI now).toInt64 < (ft i).toInt64 + b.toInt64) && decide (¬ 2147483647 < (ft i).toInt64 + b.toInt64)
theorem cm_0 {ft : Nat → Int32} {now : Nat} {b : Int32} {i : Nat} (h : lg_cmp ((ft i).toInt64 + b.toInt64) (nI now).toInt64 ≤ 0) : cm_F ft now b i = false := by
  have := lg_le.mp h
  simp [cm_F, this]
theorem cm_2 {ft : Nat → Int32} {now : Nat} {b : Int32} {i : Nat} (h : 0 < lg_cmp ((ft i).toInt64 + b.toInt64) 2147483647) : cm_F ft now b i = false := by
  have := lg_gt.mp h
  simp [cm_F, this]
theorem cm_1 {ft : Nat → Int32} {now : Nat} {b : Int32} {i : Nat} (h : ¬ lg_cmp ((ft i).toInt64 + b.toInt64) (nI now).toInt64 ≤ 0) (h2 : ¬ 0 < lg_cmp ((ft i).toInt64 + b.toInt64) 2147483647) : cm_F ft now b i = true := by
  have h3 : (nI now).toInt64 < (ft i).toInt64 + b.toInt64 := Classical.not_not.mp (fun q => h (lg_le.mpr q))
  have h4 : ¬ 2147483647 < (ft i).toInt64 + b.toInt64 := fun q => h2 (lg_gt.mpr q)
  unfold cm_F
  rw [decide_eq_true h3, decide_eq_true h4]
  rfl
def iw_F (w : Nat) (k : Int32) : Bool := decide (0 ≤ k) && decide (k < nI w)
theorem iw_0 {w : Nat} {k : Int32} (h : k < 0) : iw_F w k = false := by
  have : ¬ 0 ≤ k := Int32.not_le.mpr h
  unfold iw_F
  rw [decide_eq_false this]
  rfl
theorem iw_2 {w : Nat} {k : Int32} (h : nI w ≤ k) : iw_F w k = false := by
  have : ¬ k < nI w := Int32.not_lt.mpr h
  unfold iw_F
  rw [decide_eq_false this, Bool.and_false]
theorem iw_1 {w : Nat} {k : Int32} (h : ¬ k < 0) (h2 : ¬ nI w ≤ k) : iw_F w k = true := by
  unfold iw_F
  rw [decide_eq_true (Int32.not_lt.mp h), decide_eq_true (Int32.not_le.mp h2)]
  rfl
theorem iw_ge {w : Nat} {k : Int32} (h : iw_F w k = true) : ¬ k < 0 := fun q => by rw [iw_0 q] at h; exact absurd h (by decide)
theorem cl_nI {j : Int32} (h : ¬ j < 0) : j = nI j.toNatClampNeg := by
  obtain ⟨q, hq, rfl⟩ := nI_of h
  rw [nI_clamp hq]
theorem cl_lt {j : Int32} {b : Nat} (h : ¬ j < 0) (h2 : j < nI b) (hb : b < 2 ^ 31) : j.toNatClampNeg < b := by
  obtain ⟨q, hq, rfl⟩ := nI_of h
  rw [nI_clamp hq]
  exact (nI_ltI hq hb).mp h2
theorem iw_lt {w : Nat} {k : Int32} (h : iw_F w k = true) (hw : w < 2 ^ 31) : k.toNatClampNeg < w := by
  refine cl_lt (iw_ge h) ?_ hw
  exact Classical.not_not.mp (fun q => by rw [iw_2 (Int32.not_lt.mp q)] at h; exact absurd h (by decide))
def bo_F (fb : Nat → Int32) (a b : Nat) (j : Int32) : Int32 := if j < 0 then -1 else if nI b ≤ j then -1 else fb (a + j.toNatClampNeg) &&& nI 255
theorem bo_0 {fb : Nat → Int32} {a b : Nat} {j : Int32} (h : j < 0) : bo_F fb a b j = -1 := by rw [bo_F, if_pos h]
theorem bo_1 {fb : Nat → Int32} {a b : Nat} {j : Int32} (h2 : nI b ≤ j) : bo_F fb a b j = -1 := by
  by_cases h : j < 0
  · exact bo_0 h
  · rw [bo_F, if_neg h, if_pos h2]
theorem bo_2 {fb : Nat → Int32} {a b : Nat} {j : Int32} (h : ¬ j < 0) (h2 : ¬ nI b ≤ j) : bo_F fb a b j = fb (a + j.toNatClampNeg) &&& nI 255 := by rw [bo_F, if_neg h, if_neg h2]
def wh_F (tl now : Nat) (t : Int32) (w N : Nat) : Nat := if tl = 0 then 1 else if t ≤ nI now then 2 else if N ≤ w then 3 else 0
theorem wh_le (tl now : Nat) (t : Int32) (w N : Nat) : wh_F tl now t w N ≤ 3 := by
  unfold wh_F
  split
  · omega
  · split
    · omega
    · split <;> omega
theorem wh_w {tl now : Nat} {t : Int32} {w N : Nat} (h : wh_F tl now t w N = 0) : w < N := by
  unfold wh_F at h
  split at h
  · omega
  · split at h
    · omega
    · split at h
      · omega
      · omega
theorem fs_up {N k v : Nat} {fs : Nat → Nat} (hf : ∀ j, j < N → fs j ≤ 512) (hv : v ≤ 512) : ∀ j, j < N → va_up fs k v j ≤ 512 := by
  intro j hj
  unfold va_up
  split
  · exact hv
  · exact hf j hj
/-- moveTimes: whether all can, and how many -/
def mv_c (is cm : Nat → Bool) : Nat → Nat → (Nat → Nat) → Nat → Option Nat
  | 0, _, _, q => some q
  | n + 1, k, g, q => if is (g k) then (if cm (g k) then mv_c is cm n (k + 1) g (q + 1) else none) else mv_c is cm n (k + 1) g q
def mv_t (f t b : Int32) : Nat → Nat → (Nat → Nat) → (Nat → Int32) → (Nat → Int32)
  | 0, _, _, ft => ft
  | n + 1, k, g, ft => if in_S ft f t (g k) then mv_t f t b n (k + 1) g (upd ft (g k) (ft (g k) + b)) else mv_t f t b n (k + 1) g ft
def mv_A (o : Option Nat) : Int32 := match o with
  | none => -1
  | some q => nI q
def mv_F {α : Type} (o : Option Nat) (x y : α) : α := match o with
  | none => x
  | some _ => y
def pu_R (fb : Nat → Int32) (ts tl : Nat) (b : Int32) : Int32 × (Nat → Int32) × Nat := if tl < 256 then (nI (tl + 1), upd fb (ts + tl) (vp_nar .byte b.toInt8.toInt32), tl + 1) else (-1, fb, tl)
def co_F (now w wi ll : Nat) (k : Int32) : Int32 := if k = 0 then nI now else if k = 1 then nI w else if k = 2 then nI wi else if k = 3 then nI ll else -1
def lv_F (ft : Nat → Int32) (now w : Nat) (g : Nat → Nat) : Bool := decide (¬ w = 0) && decide (ft (g 0) ≤ nI now)
def lv_R (ft : Nat → Int32) (fs fl : Nat → Nat) (now w : Nat) (g : Nat → Nat) (lf ll : Nat) : Int32 × (Nat → Nat) × Nat × Nat × Nat := if lv_F ft now w g = true then (nI (fl (g 0)), dr_l (w - 1) 1 g, w - 1, fs (g 0), fl (g 0)) else (-1, g, w, lf, ll)
def ab_F (fn ft : Nat → Int32) (fl : Nat → Nat) (w : Nat) (g : Nat → Nat) (k j : Int32) : Int32 := if iw_F w k = true then (if j = 0 then fn (g k.toNatClampNeg) else if j = 1 then ft (g k.toNatClampNeg) else if j = 2 then nI (fl (g k.toNatClampNeg)) else -1) else -1
def ba_F (fb : Nat → Int32) (fs fl : Nat → Nat) (w : Nat) (g : Nat → Nat) (k j : Int32) : Int32 := if iw_F w k = true then bo_F fb (fs (g k.toNatClampNeg)) (fl (g k.toNatClampNeg)) j else -1
def ir_R (N : Nat) (g : Nat → Nat) (fn ft : Nat → Int32) (fs fl : Nat → Nat) (w wi now ts tl : Nat) (nu t : Int32) : (Nat → Nat) × (Nat → Int32) × (Nat → Int32) × (Nat → Nat) × (Nat → Nat) × Nat × Nat × Nat :=
  if wh_F tl now t w N = 0 then (st_l (be_F (upd ft (g w) t) (va_up fs (g w) ts)) w g, upd fn (g w) nu, upd ft (g w) t, va_up fs (g w) ts, va_up fl (g w) tl, w + 1, wi + 1, ts + tl) else (g, fn, ft, fs, fl, w, wi, ts)
