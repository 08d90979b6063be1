/-! PURE: keys in order, the table as functions of a place; nothing of the machine here -/
/-- the order of two keys, from part i on, k parts more: -1, 0, 1 -/
def lx (f g : Nat → Int32) : Nat → Nat → Int32
  | 0, _ => 0
  | k + 1, i => if f i < g i then (-1) else if f i = g i then lx f g k (i + 1) else 1
def klt (w : Nat) (f g : Nat → Int32) : Prop := ∃ i, i < w ∧ (∀ j, j < i → f j = g j) ∧ f i < g i
def keq (w : Nat) (f g : Nat → Int32) : Prop := ∀ i, i < w → f i = g i
theorem i32_tri (a b : Int32) : a < b ∨ a = b ∨ b < a := by
  rcases Int.lt_trichotomy a.toInt b.toInt with h | h | h
  · exact Or.inl (Int32.lt_iff_toInt_lt.mpr h)
  · exact Or.inr (Or.inl (Int32.toInt_inj.mp h))
  · exact Or.inr (Or.inr (Int32.lt_iff_toInt_lt.mpr h))
theorem i32_lt_irr (a : Int32) : ¬ a < a := by
  intro h
  have := Int32.lt_iff_toInt_lt.mp h
  omega
theorem i32_lt_asymm {a b : Int32} (h : a < b) : ¬ b < a := by
  intro h2
  have h1 := Int32.lt_iff_toInt_lt.mp h
  have h3 := Int32.lt_iff_toInt_lt.mp h2
  omega
theorem i32_lt_trans {a b c : Int32} (h : a < b) (h2 : b < c) : a < c := by
  have h1 := Int32.lt_iff_toInt_lt.mp h
  have h3 := Int32.lt_iff_toInt_lt.mp h2
  exact Int32.lt_iff_toInt_lt.mpr (by omega)
theorem m1_lt0 : (-1 : Int32) < 0 := by decide
theorem n1_lt0 : ¬ (1 : Int32) < 0 := by decide
theorem n0_lt0 : ¬ (0 : Int32) < 0 := by decide
theorem lx_cases (f g : Nat → Int32) : ∀ k i, (lx f g k i = -1 ∧ ∃ j, i ≤ j ∧ j < i + k ∧ (∀ t, i ≤ t → t < j → f t = g t) ∧ f j < g j) ∨ (lx f g k i = 0 ∧ ∀ t, i ≤ t → t < i + k → f t = g t) ∨ (lx f g k i = 1 ∧ ∃ j, i ≤ j ∧ j < i + k ∧ (∀ t, i ≤ t → t < j → f t = g t) ∧ g j < f j) := by
  intro k
  induction k with
  | zero => intro i; exact Or.inr (Or.inl ⟨rfl, fun t h1 h2 => by omega⟩)
  | succ k ih =>
    intro i
    rcases i32_tri (f i) (g i) with h | h | h
    · refine Or.inl ⟨by simp [lx, h], i, Nat.le_refl _, by omega, fun t h1 h2 => by omega, h⟩
    · have e : lx f g (k + 1) i = lx f g k (i + 1) := by
        have hn : ¬ f i < g i := by rw [h]; exact i32_lt_irr _
        simp [lx, hn, h]
      have up : ∀ j, (∀ t, i + 1 ≤ t → t < j → f t = g t) → ∀ t, i ≤ t → t < j → f t = g t := fun j hj t h1 h2 => by
        rcases Nat.lt_or_ge i t with q | q
        · exact hj t q h2
        · have : t = i := by omega
          subst this; exact h
      rcases ih (i + 1) with ⟨h1, j, h2, h3, h4, h5⟩ | ⟨h1, h2⟩ | ⟨h1, j, h2, h3, h4, h5⟩
      · exact Or.inl ⟨e.trans h1, j, by omega, by omega, up j h4, h5⟩
      · exact Or.inr (Or.inl ⟨e.trans h1, fun t q1 q2 => up (i + 1 + k) h2 t q1 (by omega)⟩)
      · exact Or.inr (Or.inr ⟨e.trans h1, j, by omega, by omega, up j h4, h5⟩)
    · refine Or.inr (Or.inr ⟨?_, i, Nat.le_refl _, by omega, fun t h1 h2 => by omega, h⟩)
      have h1 : ¬ f i < g i := i32_lt_asymm h
      have h2 : ¬ f i = g i := fun q => by rw [q] at h; exact i32_lt_irr _ h
      simp [lx, h1, h2]
theorem klt_irr (w : Nat) (f : Nat → Int32) : ¬ klt w f f := fun ⟨_, _, _, h⟩ => i32_lt_irr _ h
theorem klt_not_keq {w : Nat} {f g : Nat → Int32} (h : klt w f g) : ¬ keq w f g := by
  obtain ⟨i, h1, -, h3⟩ := h
  intro q
  rw [q i h1] at h3
  exact i32_lt_irr _ h3
theorem klt_asymm {w : Nat} {f g : Nat → Int32} (h : klt w f g) : ¬ klt w g f := by
  obtain ⟨i, h1, h2, h3⟩ := h
  rintro ⟨j, q1, q2, q3⟩
  rcases Nat.lt_trichotomy i j with q | q | q
  · have := q2 i q; rw [this] at h3; exact i32_lt_irr _ h3
  · subst q; exact i32_lt_asymm h3 q3
  · have := h2 j q; rw [this] at q3; exact i32_lt_irr _ q3
theorem klt_trans {w : Nat} {f g h : Nat → Int32} (a : klt w f g) (b : klt w g h) : klt w f h := by
  obtain ⟨i, h1, h2, h3⟩ := a
  obtain ⟨j, q1, q2, q3⟩ := b
  rcases Nat.lt_trichotomy i j with q | q | q
  · exact ⟨i, h1, fun t ht => (h2 t ht).trans (q2 t (by omega)), by rw [← q2 i q]; exact h3⟩
  · subst q; exact ⟨i, h1, fun t ht => (h2 t ht).trans (q2 t ht), i32_lt_trans h3 q3⟩
  · exact ⟨j, q1, fun t ht => (h2 t (by omega)).trans (q2 t ht), by rw [h2 j q]; exact q3⟩
theorem klt_congr {w : Nat} {f g f' g' : Nat → Int32} (hf : keq w f f') (hg : keq w g g') (h : klt w f g) : klt w f' g' := by
  obtain ⟨i, h1, h2, h3⟩ := h
  exact ⟨i, h1, fun t ht => by rw [← hf t (by omega), ← hg t (by omega)]; exact h2 t ht, by rw [← hf i h1, ← hg i h1]; exact h3⟩
theorem keq_rf (w : Nat) (f : Nat → Int32) : keq w f f := fun _ _ => rfl
theorem keq_symm {w : Nat} {f g : Nat → Int32} (h : keq w f g) : keq w g f := fun i hi => (h i hi).symm
theorem keq_trans {w : Nat} {f g h : Nat → Int32} (a : keq w f g) (b : keq w g h) : keq w f h := fun i hi => (a i hi).trans (b i hi)
theorem k_tri (w : Nat) (f g : Nat → Int32) : klt w f g ∨ keq w f g ∨ klt w g f := by
  rcases lx_cases f g w 0 with ⟨-, j, -, h2, h3, h4⟩ | ⟨-, h2⟩ | ⟨-, j, -, h2, h3, h4⟩
  · exact Or.inl ⟨j, by omega, fun t ht => h3 t (by omega) ht, h4⟩
  · exact Or.inr (Or.inl fun t ht => h2 t (by omega) (by omega))
  · exact Or.inr (Or.inr ⟨j, by omega, fun t ht => (h3 t (by omega) ht).symm, h4⟩)
theorem lx_lt {w : Nat} {f g : Nat → Int32} : lx f g w 0 < 0 ↔ klt w f g := by
  rcases lx_cases f g w 0 with ⟨h1, j, -, h2, h3, h4⟩ | ⟨h1, h2⟩ | ⟨h1, j, -, h2, h3, h4⟩
  · rw [h1]; exact ⟨fun _ => ⟨j, by omega, fun t ht => h3 t (by omega) ht, h4⟩, fun _ => m1_lt0⟩
  · rw [h1]; exact ⟨fun q => absurd q n0_lt0, fun q => absurd (fun t ht => h2 t (by omega) (by omega)) (klt_not_keq q)⟩
  · rw [h1]; exact ⟨fun q => absurd q n1_lt0, fun q => absurd ⟨j, by omega, fun t ht => (h3 t (by omega) ht).symm, h4⟩ (klt_asymm q)⟩
theorem lx_eq {w : Nat} {f g : Nat → Int32} : lx f g w 0 = 0 ↔ keq w f g := by
  rcases lx_cases f g w 0 with ⟨h1, j, -, h2, h3, h4⟩ | ⟨h1, h2⟩ | ⟨h1, j, -, h2, h3, h4⟩
  · rw [h1]; exact ⟨fun q => absurd q (by decide), fun q => absurd q (klt_not_keq ⟨j, by omega, fun t ht => h3 t (by omega) ht, h4⟩)⟩
  · rw [h1]; exact ⟨fun _ t ht => h2 t (by omega) (by omega), fun _ => rfl⟩
  · rw [h1]; exact ⟨fun q => absurd q (by decide), fun q => absurd (keq_symm q) (klt_not_keq ⟨j, by omega, fun t ht => (h3 t (by omega) ht).symm, h4⟩)⟩
theorem lx_gt {w : Nat} {f g : Nat → Int32} : 0 < lx f g w 0 ↔ klt w g f := by
  rcases lx_cases f g w 0 with ⟨h1, j, -, h2, h3, h4⟩ | ⟨h1, h2⟩ | ⟨h1, j, -, h2, h3, h4⟩
  · rw [h1]; exact ⟨fun q => absurd q (by decide), fun q => absurd ⟨j, by omega, fun t ht => h3 t (by omega) ht, h4⟩ (klt_asymm q)⟩
  · rw [h1]; exact ⟨fun q => absurd q (by decide), fun q => absurd (keq_symm fun t ht => h2 t (by omega) (by omega)) (klt_not_keq q)⟩
  · rw [h1]; exact ⟨fun _ => ⟨j, by omega, fun t ht => (h3 t (by omega) ht).symm, h4⟩, fun _ => by decide⟩
/-- the rows' keys are in order -/
def srt (w n : Nat) (K : Nat → Nat → Int32) : Prop := ∀ p q, p < q → q < n → klt w (K p) (K q)
/-- how many rows have a lesser key -/
def isLow (w n : Nat) (K : Nat → Nat → Int32) (key : Nat → Int32) (ps : Nat) : Prop := ps ≤ n ∧ (∀ j, j < ps → klt w (K j) key) ∧ ∀ j, ps ≤ j → j < n → ¬ klt w (K j) key
theorem isLow_ex {w n : Nat} {K : Nat → Nat → Int32} (key : Nat → Int32) (h : srt w n K) : ∃ ps, isLow w n K key ps := by
  obtain ⟨k, h1, h2⟩ := pk_least (fun k => n ≤ k ∨ ¬ klt w (K k) key) ⟨n, Or.inl (Nat.le_refl n)⟩
  refine ⟨k, ?_, fun j hj => ?_, fun j hj hn => ?_⟩
  · rcases Nat.lt_or_ge n k with q | q
    · exact absurd (Or.inl (Nat.le_refl n)) (h2 n q)
    · exact q
  · exact Classical.byContradiction fun q => h2 j hj (Or.inr q)
  · rcases h1 with q | q
    · omega
    · intro z
      rcases Nat.lt_or_ge k j with r | r
      · exact q (klt_trans (h k j r hn) z)
      · have : k = j := by omega
        subst this; exact q z
theorem isLow_un {w n : Nat} {K : Nat → Nat → Int32} {key : Nat → Int32} {a b : Nat} (ha : isLow w n K key a) (hb : isLow w n K key b) : a = b := by
  rcases Nat.lt_trichotomy a b with q | q | q
  · exact absurd (hb.2.1 a q) (ha.2.2 a (Nat.le_refl a) (by have := hb.1; omega))
  · exact q
  · exact absurd (ha.2.1 b q) (hb.2.2 b (Nat.le_refl b) (by have := ha.1; omega))
/-- a value comes in at a place, the later ones move up -/
def insF {α : Type} (ps : Nat) (v : α) (f : Nat → α) : Nat → α := fun p => if p < ps then f p else if p = ps then v else f (p - 1)
theorem insF_lt {α : Type} {ps : Nat} {v : α} {f : Nat → α} {p : Nat} (h : p < ps) : insF ps v f p = f p := by simp [insF, h]
theorem insF_eq {α : Type} {ps : Nat} {v : α} {f : Nat → α} : insF ps v f ps = v := by simp [insF]
theorem insF_gt {α : Type} {ps : Nat} {v : α} {f : Nat → α} {p : Nat} (h : ps < p) : insF ps v f p = f (p - 1) := by
  have h1 : ¬ p < ps := by omega
  have h2 : ¬ p = ps := by omega
  simp [insF, h1, h2]
theorem srt_ins {w n ps : Nat} {K : Nat → Nat → Int32} {key : Nat → Int32} (h : srt w n K) (hl : isLow w n K key ps) (hne : ps < n → ¬ keq w (K ps) key) : srt w (n + 1) (insF ps key K) := by
  have hgt : ∀ j, ps ≤ j → j < n → klt w key (K j) := fun j h1 h2 => by
    have hps : klt w key (K ps) := by
      rcases k_tri w (K ps) key with q | q | q
      · exact absurd q (hl.2.2 ps (Nat.le_refl _) (by omega))
      · exact absurd q (hne (by omega))
      · exact q
    rcases Nat.lt_or_ge ps j with q | q
    · exact klt_trans hps (h ps j q h2)
    · have : ps = j := by omega
      subst this; exact hps
  intro p q hpq hq
  rcases Nat.lt_trichotomy q ps with a | a | a
  · rw [insF_lt (by omega), insF_lt a]; exact h p q hpq (by have := hl.1; omega)
  · subst a; rw [insF_lt hpq, insF_eq]; exact hl.2.1 p hpq
  · rw [insF_gt a]
    rcases Nat.lt_trichotomy p ps with b | b | b
    · rw [insF_lt b]; exact klt_trans (hl.2.1 p b) (hgt (q - 1) (by omega) (by omega))
    · subst b; rw [insF_eq]; exact hgt (q - 1) (by omega) (by omega)
    · rw [insF_gt b]; exact h (p - 1) (q - 1) (by omega) (by omega)
/-- two tables in order with the same keys are the same -/
theorem srt_un {w n n' : Nat} {K K' : Nat → Nat → Int32} (h : srt w n K) (h' : srt w n' K') (a : ∀ p, p < n → ∃ q, q < n' ∧ keq w (K p) (K' q)) (b : ∀ q, q < n' → ∃ p, p < n ∧ keq w (K' q) (K p)) : n = n' ∧ ∀ p, p < n → keq w (K p) (K' p) := by
  have key : ∀ p, p < n → p < n' → keq w (K p) (K' p) := by
    intro p
    induction p using Nat.strongRecOn with
    | ind p ih =>
      intro h1 h2
      rcases k_tri w (K p) (K' p) with q | q | q
      · obtain ⟨j, hj, e⟩ := a p h1
        rcases Nat.lt_or_ge j p with r | r
        · have e2 := ih j r (by omega) hj
          exact absurd (keq_trans e2 (keq_symm e)) (klt_not_keq (h j p r h1))
        · rcases Nat.lt_or_ge p j with r2 | r2
          · exact absurd e (klt_not_keq (klt_trans q (h' p j r2 hj)))
          · have : p = j := by omega
            subst this; exact e
      · exact q
      · obtain ⟨j, hj, e⟩ := b p h2
        rcases Nat.lt_or_ge j p with r | r
        · have e2 := ih j r hj (by omega)
          exact absurd (keq_trans (keq_symm e2) (keq_symm e)) (klt_not_keq (h' j p r h2))
        · rcases Nat.lt_or_ge p j with r2 | r2
          · exact absurd e (klt_not_keq (klt_trans q (h p j r2 hj)))
          · have : p = j := by omega
            subst this; exact keq_symm e
  rcases Nat.lt_trichotomy n n' with q | q | q
  · obtain ⟨j, hj, e⟩ := b n q
    exact absurd (keq_trans (keq_symm (key j hj (by omega))) (keq_symm e)) (klt_not_keq (h' j n hj q))
  · exact ⟨q, fun p hp => key p hp (by omega)⟩
  · obtain ⟨j, hj, e⟩ := a n' q
    exact absurd (keq_trans (key j (by omega) hj) (keq_symm e)) (klt_not_keq (h j n' hj q))
