/-! a fact that comes: what the class's arrays become -/
theorem mx_comm (a x : Int64) : (if a < x then x else a) = if x < a then a else x := by
  rcases lg_tri a x with h | h | h
  · rw [if_pos h, if_neg (lg_lt_not h)]
  · subst h; simp
  · rw [if_neg (lg_lt_not h), if_pos h]
theorem if_two {c : Prop} [Decidable c] (a : Int64) : (if c then a else a) = a := ite_self a
theorem isLow_congr {w n : Nat} {K K' : Nat → Nat → Int32} {key : Nat → Int32} {ps : Nat} (h : ∀ j, j < n → keq w (K' j) (K j)) (hl : isLow w n K key ps) : isLow w n K' key ps :=
  ⟨hl.1, fun j hj => klt_congr (keq_symm (h j (by have := hl.1; omega))) (keq_rf _ _) (hl.2.1 j hj), fun j h1 h2 q => hl.2.2 j h1 h2 (klt_congr (h j h2) (keq_rf _ _) q)⟩
theorem fk0 (fk : Nat → Int32) : (fun i => fk (0 + i)) = fk := funext fun i => by rw [Nat.zero_add]
theorem rep_low {σ : Nat → Nat} {w ms : Nat} {T : TB} {ks : Nat → Int32} {ct sm le gr : Nat → Int64} {fk : Nat → Int32} (h : repT σ w ms T ks ct sm le gr) : isLow w T.1 (fun j i => ks (8 * σ j + i)) (fun i => fk (0 + i)) (lowP w T.1 T.2.1 fk) := by
  rw [fk0]
  exact isLow_congr (fun j hj => h.2.1 j hj) (lowP_is h.2.2.2.2)
theorem rep_has {σ : Nat → Nat} {w ms : Nat} {T : TB} {ks : Nat → Int32} {ct sm le gr : Nat → Int64} {fk : Nat → Int32} {ps : Nat} (h : repT σ w ms T ks ct sm le gr) : (ps < T.1 ∧ lx (fun i => ks (8 * σ ps + i)) (fun i => fk (0 + i)) w 0 = 0) ↔ (ps < T.1 ∧ lx (T.2.1 ps) fk w 0 = 0) := by
  rw [fk0, lx_eq, lx_eq]
  exact ⟨fun q => ⟨q.1, keq_trans (keq_symm (h.2.1 ps q.1)) q.2⟩, fun q => ⟨q.1, keq_trans (h.2.1 ps q.1) q.2⟩⟩
theorem rep_takeHit {σ : Nat → Nat} {sl : Nat → Int32} {w mn ps : Nat} {T : TB} {ks : Nat → Int32} {ct sm le gr : Nat → Int64} {fa : Nat → Int64} {nn : Int64} (hσ : perm σ sl) (h : repT σ w mn T ks ct sm le gr) (hp : ps < T.1) :
    repT σ w mn (hitT ps fa nn T) ks (vp_updL ct (σ ps) (ct (σ ps) + nn)) (upTo (fun m x => x + fa m * nn) (8 * σ ps) sm mn) (upTo (fun m x => if fa m < x then fa m else x) (8 * σ ps) le mn) (upTo (fun m x => if fa m < x then x else fa m) (8 * σ ps) gr mn) := by
  have hn := h.1.2.2.2
  have h8 := h.1.2.2.1
  have ne : ∀ p, p < T.1 → p ≠ ps → σ p ≠ σ ps := fun p h1 h2 q => h2 (hσ.2.2 p ps (by omega) (by omega) q)
  refine rep_hit h hp (fun p h1 h2 => pk_uLn (ne p h1 h2)) pk_uLs (fun p m h1 h2 h3 => ?_) (fun m h3 => ⟨upTo_at mn h3, upTo_at mn h3, (upTo_at mn h3).trans (mx_comm _ _)⟩)
  have := ne p h1 h2
  exact ⟨upTo_out mn (by omega), upTo_out mn (by omega), upTo_out mn (by omega)⟩
theorem rep_takeNew {σ : Nat → Nat} {sl : Nat → Int32} {w mn ps : Nat} {T : TB} {ks : Nat → Int32} {ct sm le gr : Nat → Int64} {fk : Nat → Int32} {fa : Nat → Int64} {nn : Int64} (hσ : perm σ sl) (h : repT σ w mn T ks ct sm le gr) (hn : T.1 < 1000) (hl : isLow w T.1 T.2.1 fk ps) (hne : ps < T.1 → ¬ keq w (T.2.1 ps) fk) :
    perm (insS σ ps T.1 T.1) (insL sl ps T.1 (nI (σ T.1))) ∧ repT (insS σ ps T.1 T.1) w mn (newT ps fk fa nn T) (va_cpy fk ks 0 (8 * σ T.1) w) (vp_updL (vp_updL ct (σ T.1) 0) (σ T.1) (vp_updL ct (σ T.1) 0 (σ T.1) + nn)) (upTo (fun m x => x + fa m * nn) (8 * σ T.1) (upTo (fun _ _ => 0) (8 * σ T.1) sm mn) mn) (upTo (fun m x => if fa m < x then fa m else x) (8 * σ T.1) (upTo (fun m _ => fa m) (8 * σ T.1) le mn) mn) (upTo (fun m x => if fa m < x then x else fa m) (8 * σ T.1) (upTo (fun m _ => fa m) (8 * σ T.1) gr mn) mn) := by
  have h8 := h.1.2.2.1
  have hw := h.1.1
  have hle := hl.1
  have ne : ∀ p, p < T.1 → σ p ≠ σ T.1 := fun p h1 q => by have := hσ.2.2 p T.1 (by omega) hn q; omega
  refine ⟨perm_ins hσ hle (Nat.le_refl _) hn (fun q hq => ?_), rep_new (x := σ T.1) h hn hl hne (fun p hp => ?_) ne (fun p i h1 h2 => ?_) (fun i h2 => ?_) (fun p h1 => ?_) ?_ (fun p m h1 h2 => ?_) (fun m h2 => ⟨?_, ?_, ?_⟩)⟩
  · unfold insL
    by_cases q1 : q < ps
    · rw [if_pos q1, if_pos q1]
    · rw [if_neg q1, if_neg q1]
      by_cases q2 : q = ps
      · rw [if_pos q2, if_pos q2]; exact (hσ.1 T.1 hn).symm
      · rw [if_neg q2, if_neg q2]
        by_cases q3 : q ≤ T.1
        · rw [if_pos q3, if_pos q3]
        · rw [if_neg q3, if_neg q3, if_neg (by omega)]
  · rcases Nat.lt_trichotomy p ps with q | q | q
    · rw [insS_lt q, insF_lt q]
    · subst q; rw [insS_eq, insF_eq]
    · rw [insS_mid q (by omega), insF_gt q]
  · have := ne p h1
    exact pk_cpy_out (by omega)
  · rw [pk_cpy_in (by omega) (by omega)]
    congr 1
    omega
  · rw [pk_uLn (ne p h1), pk_uLn (ne p h1)]
  · rw [pk_uLs, pk_uLs]; exact Int64.zero_add nn
  · have := ne p h1
    refine ⟨?_, ?_, ?_⟩ <;> rw [upTo_out mn (by omega), upTo_out mn (by omega)]
  · rw [upTo_at mn h2, upTo_at mn h2]; exact Int64.zero_add _
  · rw [upTo_at mn h2, upTo_at mn h2]; exact if_two _
  · rw [upTo_at mn h2, upTo_at mn h2]; exact if_two _
/-- the class stands for a table -/
abbrev atX (dC : Nat → ClassId) (dI : Nat → Nat → Nat) (A : Nat → Prop) (a : Nat → Nat) (k : Nat → ClassId) (wn mn : Nat) (fk : Nat → Int32) (fa : Nat → Int64) (T : TB) (t : State) : Prop :=
  ∃ (σ : Nat → Nat) (sl ks : Nat → Int32) (ct sm le gr : Nat → Int64), (perm σ sl ∧ repT σ wn mn T ks ct sm le gr) ∧ va_P (dC, dI) classes (wX a k (nI wn) (nI mn) (nI T.1) fk fa sl ks ct sm le gr) t.heap ∧ va_K (dC, dI) classes (kX k) t ∧ va_D A (wX a k (nI wn) (nI mn) (nI T.1) fk fa sl ks ct sm le gr)
theorem takeT_hit {w : Nat} {fk : Nat → Int32} {fa : Nat → Int64} {nn : Int64} {T : TB} (h : lowP w T.1 T.2.1 fk < T.1 ∧ lx (T.2.1 (lowP w T.1 T.2.1 fk)) fk w 0 = 0) : takeT w fk fa nn T = (hitT (lowP w T.1 T.2.1 fk) fa nn T, true) := by unfold takeT; rw [if_pos h]
theorem takeT_new {w : Nat} {fk : Nat → Int32} {fa : Nat → Int64} {nn : Int64} {T : TB} (h : ¬ (lowP w T.1 T.2.1 fk < T.1 ∧ lx (T.2.1 (lowP w T.1 T.2.1 fk)) fk w 0 = 0)) (hn : T.1 < 1000) : takeT w fk fa nn T = (newT (lowP w T.1 T.2.1 fk) fk fa nn T, true) := by unfold takeT; rw [if_neg h, if_pos hn]
theorem takeT_full {w : Nat} {fk : Nat → Int32} {fa : Nat → Int64} {nn : Int64} {T : TB} (h : ¬ (lowP w T.1 T.2.1 fk < T.1 ∧ lx (T.2.1 (lowP w T.1 T.2.1 fk)) fk w 0 = 0)) (hn : ¬ T.1 < 1000) : takeT w fk fa nn T = (T, false) := by unfold takeT; rw [if_neg h, if_neg hn]
