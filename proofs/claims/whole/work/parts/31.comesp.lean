/-! the model: a fact that comes -/
abbrev atM (dC : Nat → ClassId) (dI : Nat → Nat → Nat) (A : Nat → Prop) (b : Nat → Nat) (d : Nat → ClassId) (cd : Int32) (wn mn : Nat) (fk : Nat → Int32) (fa : Nat → Int64) (T : TB) (t : State) : Prop :=
  ∃ (ks2 : Nat → Int32) (ct2 sm2 le2 gr2 : Nat → Int64), repT (fun p => p) wn mn T ks2 ct2 sm2 le2 gr2 ∧ va_P (dC, dI) classes (wM b d cd (nI wn) (nI mn) (nI T.1) ks2 ct2 sm2 le2 gr2 fk fa) t.heap ∧ va_K (dC, dI) classes (kM d) t ∧ va_D A (wM b d cd (nI wn) (nI mn) (nI T.1) ks2 ct2 sm2 le2 gr2 fk fa)
theorem repM_low {w ms : Nat} {T : TB} {ks : Nat → Int32} {ct sm le gr : Nat → Int64} {fk : Nat → Int32} (h : repT (fun p => p) w ms T ks ct sm le gr) : isLow w T.1 (fun j i => ks (8 * j + i)) fk (lowP w T.1 T.2.1 fk) := isLow_congr (fun j hj => h.2.1 j hj) (lowP_is h.2.2.2.2)
theorem repM_has {w ms : Nat} {T : TB} {ks : Nat → Int32} {ct sm le gr : Nat → Int64} {fk : Nat → Int32} {ps : Nat} (h : repT (fun p => p) w ms T ks ct sm le gr) (hp : ps < T.1) : lx fk (fun i => ks (8 * ps + i)) w 0 = 0 ↔ lx (T.2.1 ps) fk w 0 = 0 := by
  rw [lx_eq, lx_eq]
  have e := h.2.1 ps hp
  exact ⟨fun q => keq_symm (keq_trans q e), fun q => keq_symm (keq_trans e q)⟩
theorem repM_hit {w mn ps : Nat} {T : TB} {ks : Nat → Int32} {ct sm le gr : Nat → Int64} {fa : Nat → Int64} {nn : Int64} (h : repT (fun p => p) w mn T ks ct sm le gr) (hp : ps < T.1) :
    repT (fun p => p) w mn (hitT ps fa nn T) ks (vp_updL ct ps (ct ps + nn)) (upTo (fun m x => x + nn * fa m) (8 * ps) sm mn) (upTo (fun m x => if fa m < x then fa m else x) (8 * ps) le mn) (upTo (fun m x => if x < fa m then fa m else x) (8 * ps) gr mn) := by
  have h8 := h.1.2.2.1
  refine rep_hit h hp (fun p h1 h2 => pk_uLn h2) pk_uLs (fun p m h1 h2 h3 => ?_) (fun m h3 => ⟨(upTo_at mn h3).trans (by rw [Int64.mul_comm]), upTo_at mn h3, upTo_at mn h3⟩)
  exact ⟨upTo_out mn (by omega), upTo_out mn (by omega), upTo_out mn (by omega)⟩
def shf {α : Type} (f f1 : Nat → α) (n k0 : Nat) : Prop := ∀ p m, p < 1000 → m < 8 → f1 (8 * p + m) = if k0 < p ∧ p ≤ n then f (8 * (p - 1) + m) else f (8 * p + m)
def shc {α : Type} (f f1 : Nat → α) (n k0 : Nat) : Prop := ∀ p, p < 1000 → f1 p = if k0 < p ∧ p ≤ n then f (p - 1) else f p
theorem shf_0 {α : Type} (f : Nat → α) (n : Nat) : shf f f n n := fun p m _ _ => by rw [if_neg (by omega)]
theorem shc_0 {α : Type} (f : Nat → α) (n : Nat) : shc f f n n := fun p _ => by rw [if_neg (by omega)]
theorem shf_I {f f1 : Nat → Int32} {n k : Nat} (h : shf f f1 n (k + 1)) (hk : k + 1 ≤ n) (hn : n < 1000) : shf f (upToI (fun m _ => f1 (8 * k + m)) (8 * (k + 1)) f1 8) n k := by
  intro p m hp hm
  by_cases e : p = k + 1
  · subst e
    rw [upToI_at 8 hm, h k m (by omega) hm, if_neg (by omega), if_pos (by omega), Nat.add_sub_cancel]
  · rw [upToI_out 8 (by omega), h p m hp hm]
    by_cases q : k + 1 < p ∧ p ≤ n
    · rw [if_pos q, if_pos (by omega)]
    · rw [if_neg q, if_neg (by omega)]
theorem shf_L {f f1 : Nat → Int64} {n k : Nat} (h : shf f f1 n (k + 1)) (hk : k + 1 ≤ n) (hn : n < 1000) : shf f (upTo (fun m _ => f1 (8 * k + m)) (8 * (k + 1)) f1 8) n k := by
  intro p m hp hm
  by_cases e : p = k + 1
  · subst e
    rw [upTo_at 8 hm, h k m (by omega) hm, if_neg (by omega), if_pos (by omega), Nat.add_sub_cancel]
  · rw [upTo_out 8 (by omega), h p m hp hm]
    by_cases q : k + 1 < p ∧ p ≤ n
    · rw [if_pos q, if_pos (by omega)]
    · rw [if_neg q, if_neg (by omega)]
theorem shc_L {f f1 : Nat → Int64} {n k : Nat} (h : shc f f1 n (k + 1)) (hk : k + 1 ≤ n) (hn : n < 1000) : shc f (vp_updL f1 (k + 1) (f1 k)) n k := by
  intro p hp
  by_cases e : p = k + 1
  · subst e
    rw [pk_uLs, h k (by omega), if_neg (by omega), if_pos (by omega), Nat.add_sub_cancel]
  · rw [pk_uLn e, h p hp]
    by_cases q : k + 1 < p ∧ p ≤ n
    · rw [if_pos q, if_pos (by omega)]
    · rw [if_neg q, if_neg (by omega)]
theorem repM_new {w mn ps : Nat} {T : TB} {ks ks1 : Nat → Int32} {ct sm le gr ct1 sm1 le1 gr1 : Nat → Int64} {fk : Nat → Int32} {fa : Nat → Int64} {nn : Int64} (h : repT (fun p => p) w mn T ks ct sm le gr) (hn : T.1 < 1000) (hl : isLow w T.1 T.2.1 fk ps) (hne : ps < T.1 → ¬ keq w (T.2.1 ps) fk)
    (hk : shf ks ks1 T.1 ps) (hc : shc ct ct1 T.1 ps) (hs : shf sm sm1 T.1 ps) (hle : shf le le1 T.1 ps) (hg : shf gr gr1 T.1 ps) :
    repT (fun p => p) w mn (newT ps fk fa nn T) (upToI (fun m _ => fk m) (8 * ps) ks1 8) (vp_updL (vp_updL ct1 ps 0) ps (vp_updL ct1 ps 0 ps + nn)) (upTo (fun m x => x + nn * fa m) (8 * ps) (upTo (fun _ _ => 0) (8 * ps) sm1 8) mn) (upTo (fun m x => if fa m < x then fa m else x) (8 * ps) (upTo (fun m _ => fa m) (8 * ps) le1 8) mn) (upTo (fun m x => if x < fa m then fa m else x) (8 * ps) (upTo (fun m _ => fa m) (8 * ps) gr1 8) mn) := by
  obtain ⟨⟨a1, a2, a3, a4⟩, r2, r3, r4, r5⟩ := h
  have hps := hl.1
  refine ⟨⟨a1, a2, a3, by show T.1 + 1 ≤ 1000; omega⟩, fun p hp i hi => ?_, fun p hp => ?_, fun p m hp hm => ?_, srt_ins r5 hl hne⟩
  · have hp : p < T.1 + 1 := hp
    show upToI (fun m _ => fk m) (8 * ps) ks1 8 (8 * p + i) = insF ps fk T.2.1 p i
    rcases Nat.lt_trichotomy p ps with q | q | q
    · rw [upToI_out 8 (by omega), hk p i (by omega) (by omega), if_neg (by omega), insF_lt q]; exact r2 p (by omega) i hi
    · subst q; rw [upToI_at 8 (by omega), insF_eq]
    · rw [upToI_out 8 (by omega), hk p i (by omega) (by omega), if_pos (by omega), insF_gt q]; exact r2 (p - 1) (by omega) i hi
  · have hp : p < T.1 + 1 := hp
    show vp_updL (vp_updL ct1 ps 0) ps (vp_updL ct1 ps 0 ps + nn) p = insF ps nn T.2.2.1 p
    rcases Nat.lt_trichotomy p ps with q | q | q
    · rw [pk_uLn (by omega), pk_uLn (by omega), hc p (by omega), if_neg (by omega), insF_lt q]; exact r3 p (by omega)
    · subst q; rw [pk_uLs, pk_uLs, insF_eq]; exact Int64.zero_add nn
    · rw [pk_uLn (by omega), pk_uLn (by omega), hc p (by omega), if_pos (by omega), insF_gt q]; exact r3 (p - 1) (by omega)
  · have hp : p < T.1 + 1 := hp
    show upTo _ (8 * ps) (upTo _ (8 * ps) sm1 8) mn (8 * p + m) = insF ps (fun m => fa m * nn) T.2.2.2.1 p m ∧ upTo _ (8 * ps) (upTo _ (8 * ps) le1 8) mn (8 * p + m) = insF ps fa T.2.2.2.2.1 p m ∧ upTo _ (8 * ps) (upTo _ (8 * ps) gr1 8) mn (8 * p + m) = insF ps fa T.2.2.2.2.2 p m
    rcases Nat.lt_trichotomy p ps with q | q | q
    · rw [upTo_out mn (by omega), upTo_out 8 (by omega), upTo_out mn (by omega), upTo_out 8 (by omega), upTo_out mn (by omega), upTo_out 8 (by omega), hs p m (by omega) (by omega), hle p m (by omega) (by omega), hg p m (by omega) (by omega), if_neg (by omega), if_neg (by omega), if_neg (by omega), insF_lt q, insF_lt q, insF_lt q]
      exact r4 p m (by omega) hm
    · subst q
      have h8 : m < 8 := by omega
      rw [upTo_at mn hm, upTo_at 8 h8, upTo_at mn hm, upTo_at 8 h8, upTo_at mn hm, upTo_at 8 h8, insF_eq, insF_eq, insF_eq]
      refine ⟨?_, ?_, ?_⟩
      · rw [Int64.zero_add, Int64.mul_comm]
      · simp
      · simp
    · rw [upTo_out mn (by omega), upTo_out 8 (by omega), upTo_out mn (by omega), upTo_out 8 (by omega), upTo_out mn (by omega), upTo_out 8 (by omega), hs p m (by omega) (by omega), hle p m (by omega) (by omega), hg p m (by omega) (by omega), if_pos (by omega), if_pos (by omega), if_pos (by omega), insF_gt q, insF_gt q, insF_gt q]
      exact r4 (p - 1) m (by omega) hm
