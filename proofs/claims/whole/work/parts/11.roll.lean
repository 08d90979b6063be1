/-! ROLL, as a relation of tables: in order, the same keys, each row of all the rows that are alike, in their turn -/
/-- of the first n rows those whose key is like 'key', joined one after the other -/
def agg (w : Nat) (Kr : Nat → Nat → Int32) (key : Nat → Int32) (v : Nat → Int64) (jn : Int64 → Int64 → Int64) : Nat → Option Int64
  | 0 => none
  | n + 1 => if lx (Kr n) key w 0 = 0 then some (match agg w Kr key v jn n with | none => v n | some x => jn x (v n)) else agg w Kr key v jn n
def jnS (x y : Int64) : Int64 := x + y
def jnL (x y : Int64) : Int64 := if y < x then y else x
def jnG (x y : Int64) : Int64 := if x < y then y else x
theorem agg_no {w : Nat} {Kr : Nat → Nat → Int32} {key : Nat → Int32} {v : Nat → Int64} {jn : Int64 → Int64 → Int64} : ∀ n, (∀ p, p < n → ¬ keq w (Kr p) key) → agg w Kr key v jn n = none := by
  intro n
  induction n with
  | zero => intro _; rfl
  | succ n ih =>
    intro h
    have h1 : ¬ lx (Kr n) key w 0 = 0 := fun q => h n (Nat.lt_succ_self n) (lx_eq.mp q)
    simp only [agg, h1, if_false]
    exact ih fun p hp => h p (by omega)
theorem agg_skip {w n : Nat} {Kr : Nat → Nat → Int32} {key : Nat → Int32} {v : Nat → Int64} {jn : Int64 → Int64 → Int64} (h : ¬ keq w (Kr n) key) : agg w Kr key v jn (n + 1) = agg w Kr key v jn n := by
  have h1 : ¬ lx (Kr n) key w 0 = 0 := fun q => h (lx_eq.mp q)
  simp only [agg, h1, if_false]
theorem agg_first {w n : Nat} {Kr : Nat → Nat → Int32} {key : Nat → Int32} {v : Nat → Int64} {jn : Int64 → Int64 → Int64} (h : keq w (Kr n) key) (h0 : agg w Kr key v jn n = none) : agg w Kr key v jn (n + 1) = some (v n) := by
  have h1 : lx (Kr n) key w 0 = 0 := lx_eq.mpr h
  simp only [agg, h1, if_true, h0]
theorem agg_next {w n : Nat} {Kr : Nat → Nat → Int32} {key : Nat → Int32} {v : Nat → Int64} {jn : Int64 → Int64 → Int64} {x : Int64} (h : keq w (Kr n) key) (h0 : agg w Kr key v jn n = some x) : agg w Kr key v jn (n + 1) = some (jn x (v n)) := by
  have h1 : lx (Kr n) key w 0 = 0 := lx_eq.mpr h
  simp only [agg, h1, if_true, h0]
theorem lx_congr {w : Nat} {f g g' : Nat → Int32} (h : keq w g g') : lx f g w 0 = 0 ↔ lx f g' w 0 = 0 := by
  rw [lx_eq, lx_eq]
  exact ⟨fun q => keq_trans q h, fun q => keq_trans q (keq_symm h)⟩
theorem agg_congr {w : Nat} {Kr : Nat → Nat → Int32} {key key' : Nat → Int32} {v : Nat → Int64} {jn : Int64 → Int64 → Int64} (h : keq w key key') : ∀ n, agg w Kr key v jn n = agg w Kr key' v jn n := by
  intro n
  induction n with
  | zero => rfl
  | succ n ih =>
    by_cases q : lx (Kr n) key w 0 = 0
    · have q2 := (lx_congr (f := Kr n) h).mp q
      simp only [agg, q, q2, if_true, ih]
    · have q2 : ¬ lx (Kr n) key' w 0 = 0 := fun z => q ((lx_congr (f := Kr n) h).mpr z)
      simp only [agg, q, q2, if_false, ih]
/-- the first p rows (keys Kr, values of T) have been put together into the k rows with the keys K1 and values C1 .. -/
def grp (w ms p : Nat) (Kr : Nat → Nat → Int32) (C : Nat → Int64) (S L G : Nat → Nat → Int64) (k : Nat) (K1 : Nat → Nat → Int32) (C1 : Nat → Int64) (S1 L1 G1 : Nat → Nat → Int64) : Prop :=
  (∀ j, j < k → ∃ q, q < p ∧ keq w (Kr q) (K1 j)) ∧ (∀ q, q < p → ∃ j, j < k ∧ keq w (Kr q) (K1 j)) ∧ (∀ i j, i < k → j < k → keq w (K1 i) (K1 j) → i = j) ∧
  (∀ j, j < k → agg w Kr (K1 j) C jnS p = some (C1 j)) ∧
  (∀ j m, j < k → m < ms → agg w Kr (K1 j) (fun r => S r m) jnS p = some (S1 j m) ∧ agg w Kr (K1 j) (fun r => L r m) jnL p = some (L1 j m) ∧ agg w Kr (K1 j) (fun r => G r m) jnG p = some (G1 j m))
theorem grp_0 (w ms : Nat) (Kr : Nat → Nat → Int32) (C : Nat → Int64) (S L G : Nat → Nat → Int64) (K1 : Nat → Nat → Int32) (C1 : Nat → Int64) (S1 L1 G1 : Nat → Nat → Int64) : grp w ms 0 Kr C S L G 0 K1 C1 S1 L1 G1 :=
  ⟨fun j h => by omega, fun q h => by omega, fun i j h => by omega, fun j h => by omega, fun j m h => by omega⟩
/-- one more row, like the row at j0: it joins -/
theorem grp_hit {w ms p : Nat} {Kr : Nat → Nat → Int32} {C : Nat → Int64} {S L G : Nat → Nat → Int64} {k : Nat} {K1 K2 : Nat → Nat → Int32} {C1 C2 : Nat → Int64} {S1 L1 G1 S2 L2 G2 : Nat → Nat → Int64} (h : grp w ms p Kr C S L G k K1 C1 S1 L1 G1) {j0 : Nat} (hj : j0 < k) (he : keq w (Kr p) (K1 j0))
    (hK : ∀ j, j < k → keq w (K1 j) (K2 j)) (hC : ∀ j, j < k → C2 j = if j = j0 then jnS (C1 j0) (C p) else C1 j)
    (hV : ∀ j m, j < k → m < ms → S2 j m = (if j = j0 then jnS (S1 j0 m) (S p m) else S1 j m) ∧ L2 j m = (if j = j0 then jnL (L1 j0 m) (L p m) else L1 j m) ∧ G2 j m = (if j = j0 then jnG (G1 j0 m) (G p m) else G1 j m)) : grp w ms (p + 1) Kr C S L G k K2 C2 S2 L2 G2 := by
  obtain ⟨h1, h2, h3, h4, h5⟩ := h
  have ne : ∀ j, j < k → j ≠ j0 → ¬ keq w (Kr p) (K1 j) := fun j a b q => b (h3 j j0 a hj (keq_trans (keq_symm q) he))
  have one : ∀ (v : Nat → Int64) (jn : Int64 → Int64 → Int64) (j : Nat) (x y : Int64), j < k → agg w Kr (K1 j) v jn p = some x → y = (if j = j0 then jn x (v p) else x) → agg w Kr (K2 j) v jn (p + 1) = some y := by
    intro v jn j x y a b e
    rw [← agg_congr (hK j a)]
    by_cases q : j = j0
    · subst q; rw [agg_next he b, e, if_pos rfl]
    · rw [agg_skip (ne j a q), b, e, if_neg q]
  refine ⟨fun j a => ?_, fun q a => ?_, fun i j a b c => ?_, fun j a => ?_, fun j m a b => ⟨?_, ?_, ?_⟩⟩
  · obtain ⟨q, q1, q2⟩ := h1 j a
    exact ⟨q, by omega, keq_trans q2 (hK j a)⟩
  · rcases Nat.lt_or_ge q p with r | r
    · obtain ⟨j, q1, q2⟩ := h2 q r
      exact ⟨j, q1, keq_trans q2 (hK j q1)⟩
    · have : q = p := by omega
      subst this; exact ⟨j0, hj, keq_trans he (hK j0 hj)⟩
  · exact h3 i j a b (keq_trans (hK i a) (keq_trans c (keq_symm (hK j b))))
  · exact one C jnS j (C1 j) (C2 j) a (h4 j a) (by rw [hC j a]; by_cases q : j = j0 <;> simp [q])
  · exact one (fun r => S r m) jnS j (S1 j m) (S2 j m) a (h5 j m a b).1 (by rw [(hV j m a b).1]; by_cases q : j = j0 <;> simp [q])
  · exact one (fun r => L r m) jnL j (L1 j m) (L2 j m) a (h5 j m a b).2.1 (by rw [(hV j m a b).2.1]; by_cases q : j = j0 <;> simp [q])
  · exact one (fun r => G r m) jnG j (G1 j m) (G2 j m) a (h5 j m a b).2.2 (by rw [(hV j m a b).2.2]; by_cases q : j = j0 <;> simp [q])
/-- one more row, like none: it comes in at a place -/
theorem grp_new {w ms p : Nat} {Kr : Nat → Nat → Int32} {C : Nat → Int64} {S L G : Nat → Nat → Int64} {k : Nat} {K1 K2 : Nat → Nat → Int32} {C1 C2 : Nat → Int64} {S1 L1 G1 S2 L2 G2 : Nat → Nat → Int64} (h : grp w ms p Kr C S L G k K1 C1 S1 L1 G1) {ps : Nat} (hp : ps ≤ k) (hne : ∀ j, j < k → ¬ keq w (Kr p) (K1 j))
    (hK : ∀ j, j < k + 1 → keq w (insF ps (Kr p) K1 j) (K2 j)) (hC : ∀ j, j < k + 1 → C2 j = insF ps (C p) C1 j)
    (hV : ∀ j m, j < k + 1 → m < ms → S2 j m = insF ps (S p) S1 j m ∧ L2 j m = insF ps (L p) L1 j m ∧ G2 j m = insF ps (G p) G1 j m) : grp w ms (p + 1) Kr C S L G (k + 1) K2 C2 S2 L2 G2 := by
  obtain ⟨h1, h2, h3, h4, h5⟩ := h
  have none0 : ∀ (v : Nat → Int64) (jn : Int64 → Int64 → Int64), agg w Kr (Kr p) v jn p = none := fun v jn => agg_no p fun q a e => by
    obtain ⟨j, q1, q2⟩ := h2 q a
    exact hne j q1 (keq_trans (keq_symm e) q2)
  -- each place of the new rows: the new one, or an old one's
  have cs : ∀ j, j < k + 1 → (j = ps ∧ (∀ (α : Type) (v : α) (f : Nat → α), insF ps v f j = v)) ∨ ∃ j', j' < k ∧ (∀ (α : Type) (v : α) (f : Nat → α), insF ps v f j = f j') ∧ j = (if j' < ps then j' else j' + 1) := by
    intro j a
    rcases Nat.lt_trichotomy j ps with q | q | q
    · exact Or.inr ⟨j, by omega, fun α v f => insF_lt q, by rw [if_pos q]⟩
    · subst q; exact Or.inl ⟨rfl, fun α v f => insF_eq⟩
    · exact Or.inr ⟨j - 1, by omega, fun α v f => insF_gt q, by rw [if_neg (by omega)]; omega⟩
  have one : ∀ (v : Nat → Int64) (jn : Int64 → Int64 → Int64) (f : Nat → Int64) (j : Nat) (y : Int64), j < k + 1 → (∀ j', j' < k → agg w Kr (K1 j') v jn p = some (f j')) → y = insF ps (v p) f j → agg w Kr (K2 j) v jn (p + 1) = some y := by
    intro v jn f j y a b e
    rw [← agg_congr (hK j a)]
    rcases cs j a with ⟨-, q⟩ | ⟨j', q1, q, -⟩
    · rw [q, e, q]; exact agg_first (keq_rf _ _) (none0 v jn)
    · rw [q, e, q, agg_skip (hne j' q1)]; exact b j' q1
  refine ⟨fun j a => ?_, fun q a => ?_, fun i j a b c => ?_, fun j a => ?_, fun j m a b => ⟨?_, ?_, ?_⟩⟩
  · rcases cs j a with ⟨-, q⟩ | ⟨j', q1, q, -⟩
    · exact ⟨p, by omega, by have := hK j a; rw [q] at this; exact this⟩
    · obtain ⟨r, r1, r2⟩ := h1 j' q1
      exact ⟨r, by omega, keq_trans r2 (by have := hK j a; rw [q] at this; exact this)⟩
  · rcases Nat.lt_or_ge q p with r | r
    · obtain ⟨j, q1, q2⟩ := h2 q r
      rcases Nat.lt_or_ge j ps with z | z
      · have := hK j (by omega); rw [insF_lt z] at this
        exact ⟨j, by omega, keq_trans q2 this⟩
      · have := hK (j + 1) (by omega); rw [insF_gt (by omega), Nat.add_sub_cancel] at this
        exact ⟨j + 1, by omega, keq_trans q2 this⟩
    · have e : q = p := by omega
      subst e
      have := hK ps (by omega); rw [insF_eq] at this
      exact ⟨ps, by omega, this⟩
  · have c' := keq_trans (hK i a) (keq_trans c (keq_symm (hK j b)))
    rcases cs i a with ⟨e1, q1⟩ | ⟨i', r1, q1, e1⟩ <;> rcases cs j b with ⟨e2, q2⟩ | ⟨j', r2, q2, e2⟩
    · omega
    · rw [q1, q2] at c'; exact absurd c' (hne j' r2)
    · rw [q1, q2] at c'; exact absurd (keq_symm c') (hne i' r1)
    · rw [q1, q2] at c'
      have := h3 i' j' r1 r2 c'
      subst this; omega
  · exact one C jnS C1 j (C2 j) a h4 (hC j a)
  · exact one (fun r => S r m) jnS (fun r => S1 r m) j (S2 j m) a (fun j' q => (h5 j' m q b).1) (by rw [(hV j m a b).1]; rcases cs j a with ⟨-, q⟩ | ⟨j', -, q, -⟩ <;> rw [q, q])
  · exact one (fun r => L r m) jnL (fun r => L1 r m) j (L2 j m) a (fun j' q => (h5 j' m q b).2.1) (by rw [(hV j m a b).2.1]; rcases cs j a with ⟨-, q⟩ | ⟨j', -, q, -⟩ <;> rw [q, q])
  · exact one (fun r => G r m) jnG (fun r => G1 r m) j (G2 j m) a (fun j' q => (h5 j' m q b).2.2) (by rw [(hV j m a b).2.2]; rcases cs j a with ⟨-, q⟩ | ⟨j', -, q, -⟩ <;> rw [q, q])
/-- the keys with part i rolled up -/
def rolK (i : Nat) (K : Nat → Nat → Int32) : Nat → Nat → Int32 := fun p j => if j = i then 2147483647 else K p j
def rollR (w ms i : Nat) (T T' : TB) : Prop := srt w T'.1 T'.2.1 ∧ T'.1 ≤ T.1 ∧ grp w ms T.1 (rolK i T.2.1) T.2.2.1 T.2.2.2.1 T.2.2.2.2.1 T.2.2.2.2.2 T'.1 T'.2.1 T'.2.2.1 T'.2.2.2.1 T'.2.2.2.2.1 T'.2.2.2.2.2
theorem rollR_un {w ms i : Nat} {T T1 T2 : TB} (h1 : rollR w ms i T T1) (h2 : rollR w ms i T T2) : T1.1 = T2.1 ∧ (∀ p, p < T1.1 → keq w (T1.2.1 p) (T2.2.1 p)) ∧ (∀ p, p < T1.1 → T1.2.2.1 p = T2.2.2.1 p) ∧ (∀ p m, p < T1.1 → m < ms → T1.2.2.2.1 p m = T2.2.2.2.1 p m ∧ T1.2.2.2.2.1 p m = T2.2.2.2.2.1 p m ∧ T1.2.2.2.2.2 p m = T2.2.2.2.2.2 p m) := by
  obtain ⟨s1, -, a1, b1, -, c1, v1⟩ := h1
  obtain ⟨s2, -, a2, b2, -, c2, v2⟩ := h2
  obtain ⟨e, k⟩ := srt_un s1 s2
    (fun p hp => by
      obtain ⟨q, q1, q2⟩ := a1 p hp
      obtain ⟨j, j1, j2⟩ := b2 q q1
      exact ⟨j, j1, keq_trans (keq_symm q2) j2⟩)
    (fun p hp => by
      obtain ⟨q, q1, q2⟩ := a2 p hp
      obtain ⟨j, j1, j2⟩ := b1 q q1
      exact ⟨j, j1, keq_trans (keq_symm q2) j2⟩)
  refine ⟨e, k, fun p hp => ?_, fun p m hp hm => ?_⟩
  · have x := c1 p hp
    rw [agg_congr (k p hp), c2 p (by omega)] at x
    exact (Option.some.inj x).symm
  · obtain ⟨x, y, z⟩ := v1 p m hp hm
    obtain ⟨x2, y2, z2⟩ := v2 p m (by omega) hm
    rw [agg_congr (k p hp), x2] at x
    rw [agg_congr (k p hp), y2] at y
    rw [agg_congr (k p hp), z2] at z
    exact ⟨(Option.some.inj x).symm, (Option.some.inj y).symm, (Option.some.inj z).symm⟩
theorem rollR_rep {σ : Nat → Nat} {w ms i : Nat} {T T1 T2 : TB} {ks : Nat → Int32} {ct sm le gr : Nat → Int64} (h1 : rollR w ms i T T1) (h2 : rollR w ms i T T2) (h : repT σ w ms T2 ks ct sm le gr) : repT σ w ms T1 ks ct sm le gr := by
  obtain ⟨e, k, c, v⟩ := rollR_un h1 h2
  obtain ⟨r1, r2, r3, r4, r5⟩ := h
  refine ⟨⟨r1.1, r1.2.1, r1.2.2.1, by rw [e]; exact r1.2.2.2⟩, fun p hp => keq_trans (r2 p (by omega)) (keq_symm (k p hp)), fun p hp => (r3 p (by omega)).trans (c p hp).symm, fun p m hp hm => ?_, h1.1⟩
  obtain ⟨x, y, z⟩ := r4 p m (by omega) hm
  obtain ⟨x2, y2, z2⟩ := v p m hp hm
  exact ⟨x.trans x2.symm, y.trans y2.symm, z.trans z2.symm⟩
