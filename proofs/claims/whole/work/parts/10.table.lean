/-! THE TABLE, as a value: how many rows; keys, counts, sums, leasts, greatests by place -/
abbrev TB : Type := Nat × (Nat → Nat → Int32) × (Nat → Int64) × (Nat → Nat → Int64) × (Nat → Nat → Int64) × (Nat → Nat → Int64)
/-- the first place from p on, among k rows more, whose key is not less -/
def lowF (w : Nat) (K : Nat → Nat → Int32) (key : Nat → Int32) : Nat → Nat → Nat
  | 0, p => p
  | k + 1, p => if lx (K p) key w 0 < 0 then lowF w K key k (p + 1) else p
def lowP (w n : Nat) (K : Nat → Nat → Int32) (key : Nat → Int32) : Nat := lowF w K key n 0
theorem lowF_is {w n : Nat} {K : Nat → Nat → Int32} {key : Nat → Int32} (h : srt w n K) : ∀ k p, p + k = n → (∀ j, j < p → klt w (K j) key) → isLow w n K key (lowF w K key k p) := by
  intro k
  induction k with
  | zero =>
    intro p hp hj
    exact ⟨by simp [lowF]; omega, hj, fun j h1 h2 => by simp [lowF] at h1; omega⟩
  | succ k ih =>
    intro p hp hj
    by_cases q : lx (K p) key w 0 < 0
    · simp only [lowF, q, if_true]
      exact ih (p + 1) (by omega) (fun j h1 => by
        rcases Nat.lt_or_ge j p with r | r
        · exact hj j r
        · have : j = p := by omega
          subst this; exact lx_lt.mp q)
    · simp only [lowF, q, if_false]
      refine ⟨by omega, hj, fun j h1 h2 z => ?_⟩
      rcases Nat.lt_or_ge p j with r | r
      · exact q (lx_lt.mpr (klt_trans (h p j r h2) z))
      · have : p = j := by omega
        subst this; exact q (lx_lt.mpr z)
theorem lowP_is {w n : Nat} {K : Nat → Nat → Int32} {key : Nat → Int32} (h : srt w n K) : isLow w n K key (lowP w n K key) := lowF_is h n 0 (by omega) (fun j hj => by omega)
/-- the row is there -/
def hasK (w : Nat) (fk : Nat → Int32) (T : TB) : Prop := lowP w T.1 T.2.1 fk < T.1 ∧ lx (T.2.1 (lowP w T.1 T.2.1 fk)) fk w 0 = 0
/-- a fact joins the row at a place -/
def hitT (ps : Nat) (fa : Nat → Int64) (nn : Int64) (T : TB) : TB :=
  (T.1, T.2.1, va_up T.2.2.1 ps (T.2.2.1 ps + nn), va_up T.2.2.2.1 ps (fun m => T.2.2.2.1 ps m + fa m * nn), va_up T.2.2.2.2.1 ps (fun m => if fa m < T.2.2.2.2.1 ps m then fa m else T.2.2.2.2.1 ps m), va_up T.2.2.2.2.2 ps (fun m => if T.2.2.2.2.2 ps m < fa m then fa m else T.2.2.2.2.2 ps m))
/-- a fact opens a row at a place -/
def newT (ps : Nat) (fk : Nat → Int32) (fa : Nat → Int64) (nn : Int64) (T : TB) : TB :=
  (T.1 + 1, insF ps fk T.2.1, insF ps nn T.2.2.1, insF ps (fun m => fa m * nn) T.2.2.2.1, insF ps fa T.2.2.2.2.1, insF ps fa T.2.2.2.2.2)
def takeT (w : Nat) (fk : Nat → Int32) (fa : Nat → Int64) (nn : Int64) (T : TB) : TB × Bool :=
  if lowP w T.1 T.2.1 fk < T.1 ∧ lx (T.2.1 (lowP w T.1 T.2.1 fk)) fk w 0 = 0 then (hitT (lowP w T.1 T.2.1 fk) fa nn T, true)
  else if T.1 < 1000 then (newT (lowP w T.1 T.2.1 fk) fk fa nn T, true) else (T, false)
/-- the fact in the making, a step on -/
def stK (fk : Nat → Int32) (i : Nat) (step : Int32) : Nat → Int32 := upd fk i (fk i + step)
def stA (fa : Nat → Int64) (ms : Nat) (step : Int32) : Nat → Int64 := fun m => if m < ms then fa m + step.toInt64 else fa m
/-- k facts more, 'came' came before -/
def sprT (w ms i : Nat) (step : Int32) : Nat → Nat → (Nat → Int32) → (Nat → Int64) → TB → Nat × (Nat → Int32) × (Nat → Int64) × TB
  | 0, came, fk, fa, T => (came, fk, fa, T)
  | k + 1, came, fk, fa, T =>
    if (takeT w (if came = 0 then fk else stK fk i step) (if came = 0 then fa else stA fa ms step) 1 T).2 = true then
      sprT w ms i step k (came + 1) (if came = 0 then fk else stK fk i step) (if came = 0 then fa else stA fa ms step) (takeT w (if came = 0 then fk else stK fk i step) (if came = 0 then fa else stA fa ms step) 1 T).1
    else (came, if came = 0 then fk else stK fk i step, if came = 0 then fa else stA fa ms step, T)
/-- what arrays say of a table: row p lies at the slot σ p -/
def repT (σ : Nat → Nat) (w ms : Nat) (T : TB) (ks : Nat → Int32) (ct sm le gr : Nat → Int64) : Prop :=
  (w ≤ 8 ∧ 1 ≤ ms ∧ ms ≤ 8 ∧ T.1 ≤ 1000) ∧ (∀ p, p < T.1 → keq w (fun i => ks (8 * σ p + i)) (T.2.1 p)) ∧ (∀ p, p < T.1 → ct (σ p) = T.2.2.1 p) ∧
  (∀ p m, p < T.1 → m < ms → sm (8 * σ p + m) = T.2.2.2.1 p m ∧ le (8 * σ p + m) = T.2.2.2.2.1 p m ∧ gr (8 * σ p + m) = T.2.2.2.2.2 p m) ∧ srt w T.1 T.2.1
/-- the slots: each number once -/
def perm (σ : Nat → Nat) (sl : Nat → Int32) : Prop := (∀ p, p < 1000 → sl p = nI (σ p)) ∧ (∀ p, p < 1000 → σ p < 1000) ∧ ∀ p q, p < 1000 → q < 1000 → σ p = σ q → p = q
