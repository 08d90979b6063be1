/-! what a change of the arrays makes of the table -/
def insX (ps k p0 : Nat) : Nat → Nat := fun q => if q < ps then q else if q = ps then p0 else if q ≤ k then q - 1 else if q = p0 then k else q
theorem insX_inj {ps k p0 : Nat} (h1 : ps ≤ k) (h2 : k ≤ p0) {a b : Nat} (h : insX ps k p0 a = insX ps k p0 b) : a = b := by
  unfold insX at h
  repeat' split at h
  all_goals omega
theorem insX_lt {ps k p0 : Nat} (h1 : ps ≤ k) (h2 : k ≤ p0) (h3 : p0 < 1000) {a : Nat} (ha : a < 1000) : insX ps k p0 a < 1000 := by
  unfold insX
  repeat' split
  all_goals omega
def insS (σ : Nat → Nat) (ps k p0 : Nat) : Nat → Nat := fun q => σ (insX ps k p0 q)
theorem insS_lt {σ : Nat → Nat} {ps k p0 q : Nat} (h : q < ps) : insS σ ps k p0 q = σ q := by simp [insS, insX, h]
theorem insS_eq {σ : Nat → Nat} {ps k p0 : Nat} : insS σ ps k p0 ps = σ p0 := by simp [insS, insX]
theorem insS_mid {σ : Nat → Nat} {ps k p0 q : Nat} (h : ps < q) (h2 : q ≤ k) : insS σ ps k p0 q = σ (q - 1) := by
  have a : ¬ q < ps := by omega
  have b : ¬ q = ps := by omega
  simp [insS, insX, a, b, h2]
theorem insS_hi {σ : Nat → Nat} {ps k p0 q : Nat} (h1 : ps ≤ k) (h2 : k ≤ p0) (h : p0 < q) : insS σ ps k p0 q = σ q := by
  have a : ¬ q < ps := by omega
  have b : ¬ q = ps := by omega
  have d : ¬ q ≤ k := by omega
  have f : ¬ q = p0 := by omega
  simp [insS, insX, a, b, d, f]
theorem perm_ins {σ : Nat → Nat} {sl sl' : Nat → Int32} {ps k p0 : Nat} (h : perm σ sl) (h1 : ps ≤ k) (h2 : k ≤ p0) (h3 : p0 < 1000)
    (e : ∀ q, q < 1000 → sl' q = if q < ps then sl q else if q = ps then sl p0 else if q ≤ k then sl (q - 1) else if q = p0 then sl k else sl q) : perm (insS σ ps k p0) sl' := by
  obtain ⟨a, b, d⟩ := h
  refine ⟨fun q hq => ?_, fun q hq => b _ (insX_lt h1 h2 h3 hq), fun p q hp hq z => insX_inj h1 h2 (d _ _ (insX_lt h1 h2 h3 hp) (insX_lt h1 h2 h3 hq) z)⟩
  rw [e q hq]
  unfold insS insX
  repeat' split
  all_goals exact a _ (by omega)
/-- a row more -/
theorem rep_new {σ σ' : Nat → Nat} {w ms ps : Nat} {T : TB} {ks ks' : Nat → Int32} {ct sm le gr ct' sm' le' gr' : Nat → Int64} {fk : Nat → Int32} {fa : Nat → Int64} {nn : Int64} {x : Nat} (h : repT σ w ms T ks ct sm le gr) (hn : T.1 < 1000) (hl : isLow w T.1 T.2.1 fk ps) (hne : ps < T.1 → ¬ keq w (T.2.1 ps) fk)
    (hs : ∀ p, p < T.1 + 1 → σ' p = insF ps x σ p) (hx : ∀ p, p < T.1 → σ p ≠ x)
    (hk : ∀ p i, p < T.1 → i < w → ks' (8 * σ p + i) = ks (8 * σ p + i)) (hkx : ∀ i, i < w → ks' (8 * x + i) = fk i)
    (hc : ∀ p, p < T.1 → ct' (σ p) = ct (σ p)) (hcx : ct' x = nn)
    (hv : ∀ p m, p < T.1 → m < ms → sm' (8 * σ p + m) = sm (8 * σ p + m) ∧ le' (8 * σ p + m) = le (8 * σ p + m) ∧ gr' (8 * σ p + m) = gr (8 * σ p + m))
    (hvx : ∀ m, m < ms → sm' (8 * x + m) = fa m * nn ∧ le' (8 * x + m) = fa m ∧ gr' (8 * x + m) = fa m) : repT σ' w ms (newT ps fk fa nn T) ks' ct' sm' le' gr' := by
  obtain ⟨r1, r2, r3, r4, r5⟩ := h
  have hle := hl.1
  have cs : ∀ p, p < T.1 + 1 → (p = ps ∧ σ' p = x ∧ ∀ (α : Type) (v : α) (f : Nat → α), insF ps v f p = v) ∨ ∃ p', p' < T.1 ∧ σ' p = σ p' ∧ ∀ (α : Type) (v : α) (f : Nat → α), insF ps v f p = f p' := by
    intro p hp
    rcases Nat.lt_trichotomy p ps with q | q | q
    · exact Or.inr ⟨p, by omega, (hs p hp).trans (insF_lt q), fun α v f => insF_lt q⟩
    · subst q; exact Or.inl ⟨rfl, (hs p hp).trans insF_eq, fun α v f => insF_eq⟩
    · exact Or.inr ⟨p - 1, by omega, (hs p hp).trans (insF_gt q), fun α v f => insF_gt q⟩
  refine ⟨⟨r1.1, r1.2.1, r1.2.2.1, by show T.1 + 1 ≤ 1000; omega⟩, fun p hp => ?_, fun p hp => ?_, fun p m hp hm => ?_, srt_ins r5 hl hne⟩
  · rcases cs p hp with ⟨-, e, z⟩ | ⟨p', q, e, z⟩
    · intro i hi
      show ks' (8 * σ' p + i) = insF ps fk T.2.1 p i
      rw [e, z]; exact hkx i hi
    · intro i hi
      show ks' (8 * σ' p + i) = insF ps fk T.2.1 p i
      rw [e, z, hk p' i q hi]; exact r2 p' q i hi
  · rcases cs p hp with ⟨-, e, z⟩ | ⟨p', q, e, z⟩
    · show ct' (σ' p) = insF ps nn T.2.2.1 p
      rw [e, z]; exact hcx
    · show ct' (σ' p) = insF ps nn T.2.2.1 p
      rw [e, z, hc p' q]; exact r3 p' q
  · rcases cs p hp with ⟨-, e, z⟩ | ⟨p', q, e, z⟩
    · show sm' (8 * σ' p + m) = insF ps (fun m => fa m * nn) T.2.2.2.1 p m ∧ le' (8 * σ' p + m) = insF ps fa T.2.2.2.2.1 p m ∧ gr' (8 * σ' p + m) = insF ps fa T.2.2.2.2.2 p m
      rw [e, z, z, z]; exact hvx m hm
    · show sm' (8 * σ' p + m) = insF ps (fun m => fa m * nn) T.2.2.2.1 p m ∧ le' (8 * σ' p + m) = insF ps fa T.2.2.2.2.1 p m ∧ gr' (8 * σ' p + m) = insF ps fa T.2.2.2.2.2 p m
      rw [e, z, z, z]
      obtain ⟨a1, a2, a3⟩ := hv p' m q hm
      obtain ⟨b1, b2, b3⟩ := r4 p' m q hm
      exact ⟨a1.trans b1, a2.trans b2, a3.trans b3⟩
/-- a fact joins a row -/
theorem rep_hit {σ : Nat → Nat} {w ms ps : Nat} {T : TB} {ks : Nat → Int32} {ct sm le gr ct' sm' le' gr' : Nat → Int64} {fa : Nat → Int64} {nn : Int64} (h : repT σ w ms T ks ct sm le gr) (hp : ps < T.1)
    (hc : ∀ p, p < T.1 → p ≠ ps → ct' (σ p) = ct (σ p)) (hcx : ct' (σ ps) = ct (σ ps) + nn)
    (hv : ∀ p m, p < T.1 → p ≠ ps → m < ms → sm' (8 * σ p + m) = sm (8 * σ p + m) ∧ le' (8 * σ p + m) = le (8 * σ p + m) ∧ gr' (8 * σ p + m) = gr (8 * σ p + m))
    (hvx : ∀ m, m < ms → sm' (8 * σ ps + m) = sm (8 * σ ps + m) + fa m * nn ∧ le' (8 * σ ps + m) = (if fa m < le (8 * σ ps + m) then fa m else le (8 * σ ps + m)) ∧ gr' (8 * σ ps + m) = (if gr (8 * σ ps + m) < fa m then fa m else gr (8 * σ ps + m))) : repT σ w ms (hitT ps fa nn T) ks ct' sm' le' gr' := by
  obtain ⟨r1, r2, r3, r4, r5⟩ := h
  refine ⟨r1, r2, fun p hp' => ?_, fun p m hp' hm => ?_, r5⟩
  · show ct' (σ p) = va_up T.2.2.1 ps (T.2.2.1 ps + nn) p
    by_cases q : p = ps
    · subst q; rw [va_up_self, hcx, r3 p hp]
    · rw [va_up_ne _ _ q, hc p hp' q]; exact r3 p hp'
  · show sm' (8 * σ p + m) = va_up T.2.2.2.1 ps _ p m ∧ le' (8 * σ p + m) = va_up T.2.2.2.2.1 ps _ p m ∧ gr' (8 * σ p + m) = va_up T.2.2.2.2.2 ps _ p m
    obtain ⟨b1, b2, b3⟩ := r4 p m hp' hm
    by_cases q : p = ps
    · subst q
      obtain ⟨a1, a2, a3⟩ := hvx m hm
      rw [va_up_self, va_up_self, va_up_self, a1, a2, a3, b1, b2, b3]
      exact ⟨rfl, rfl, rfl⟩
    · obtain ⟨a1, a2, a3⟩ := hv p m hp' q hm
      rw [va_up_ne _ _ q, va_up_ne _ _ q, va_up_ne _ _ q]
      exact ⟨a1.trans b1, a2.trans b2, a3.trans b3⟩
