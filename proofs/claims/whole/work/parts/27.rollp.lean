/-! rows for spread and roll -/
theorem upTo_stA (fa : Nat → Int64) (ms : Nat) (st : Int32) : upTo (fun _ x => x + st.toInt64) 0 fa ms = stA fa ms st := by
  funext m
  unfold stA
  by_cases h : m < ms
  · rw [if_pos h]
    have := upTo_at (g := fun _ x => x + st.toInt64) (q8 := 0) (f := fa) ms h
    rw [Nat.zero_add] at this
    exact this
  · rw [if_neg h]
    exact upTo_out ms (by omega)
theorem i64_one : (1 : Int32).toInt64 = 1 := by decide
theorem takeT_no {w : Nat} {fk : Nat → Int32} {fa : Nat → Int64} {nn : Int64} {T : TB} (h : ¬ (takeT w fk fa nn T).2 = true) : (takeT w fk fa nn T).1 = T := by
  unfold takeT at h ⊢
  split at h
  · exact absurd rfl h
  · rename_i h1
    rw [if_neg h1]
    split at h
    · exact absurd rfl h
    · rename_i h2
      rw [if_neg h2]
theorem sprT_yes {w ms i : Nat} {step : Int32} {k came : Nat} {fk fk2 : Nat → Int32} {fa fa2 : Nat → Int64} {T : TB} (ek : fk2 = if came = 0 then fk else stK fk i step) (ea : fa2 = if came = 0 then fa else stA fa ms step) (h : (takeT w fk2 fa2 1 T).2 = true) : sprT w ms i step (k + 1) came fk fa T = sprT w ms i step k (came + 1) fk2 fa2 (takeT w fk2 fa2 1 T).1 := by
  subst ek; subst ea
  show (if _ then _ else _) = _
  rw [if_pos h]
theorem sprT_no {w ms i : Nat} {step : Int32} {k came : Nat} {fk fk2 : Nat → Int32} {fa fa2 : Nat → Int64} {T : TB} (ek : fk2 = if came = 0 then fk else stK fk i step) (ea : fa2 = if came = 0 then fa else stA fa ms step) (h : ¬ (takeT w fk2 fa2 1 T).2 = true) : sprT w ms i step (k + 1) came fk fa T = (came, fk2, fa2, T) := by
  subst ek; subst ea
  show (if _ then _ else _) = _
  rw [if_neg h]
/-- the keys rolled up one row after the other -/
def rolA (σ : Nat → Nat) (i : Nat) (ks : Nat → Int32) : Nat → Nat → Int32
  | 0 => ks
  | p + 1 => upd (rolA σ i ks p) (8 * σ p + i) 2147483647
theorem rolA_at {σ : Nat → Nat} {i : Nat} {ks : Nat → Int32} (hi : i < 8) (inj : ∀ p q, p < 1000 → q < 1000 → σ p = σ q → p = q) : ∀ n, n ≤ 1000 → ∀ q j, q < n → j < 8 → rolA σ i ks n (8 * σ q + j) = if j = i then 2147483647 else ks (8 * σ q + j) := by
  have out : ∀ n, n ≤ 1000 → ∀ q j, n ≤ q → q < 1000 → j < 8 → rolA σ i ks n (8 * σ q + j) = ks (8 * σ q + j) := by
    intro n
    induction n with
    | zero => intro _ q j _ _ _; rfl
    | succ n ih =>
      intro hn q j h1 h2 h3
      show upd (rolA σ i ks n) (8 * σ n + i) _ (8 * σ q + j) = _
      have : σ q ≠ σ n := fun e => by have := inj q n h2 (by omega) e; omega
      rw [pk_un (by omega)]
      exact ih (by omega) q j (by omega) h2 h3
  intro n
  induction n with
  | zero => intro _ q j h; omega
  | succ n ih =>
    intro hn q j h1 h2
    show upd (rolA σ i ks n) (8 * σ n + i) _ (8 * σ q + j) = _
    by_cases e : q = n
    · subst e
      by_cases e2 : j = i
      · subst e2; rw [pk_us, if_pos rfl]
      · rw [pk_un (by omega), if_neg e2]; exact out q (by omega) q j (Nat.le_refl _) (by omega) h2
    · have : σ q ≠ σ n := fun z => e (inj q n (by omega) (by omega) z)
      rw [pk_un (by omega)]
      exact ih (by omega) q j (by omega) h2
theorem agg_congr2 {w : Nat} {Kr Kr' : Nat → Nat → Int32} {key : Nat → Int32} {v v' : Nat → Int64} {jn : Int64 → Int64 → Int64} : ∀ n, (∀ p, p < n → keq w (Kr p) (Kr' p) ∧ v p = v' p) → agg w Kr key v jn n = agg w Kr' key v' jn n := by
  intro n
  induction n with
  | zero => intro _; rfl
  | succ n ih =>
    intro h
    have e := ih (fun p hp => h p (by omega))
    obtain ⟨h1, h2⟩ := h n (Nat.lt_succ_self n)
    by_cases q : lx (Kr n) key w 0 = 0
    · have q2 : lx (Kr' n) key w 0 = 0 := lx_eq.mpr (keq_trans (keq_symm h1) (lx_eq.mp q))
      simp only [agg, q, q2, if_true, e, h2]
    · have q2 : ¬ lx (Kr' n) key w 0 = 0 := fun z => q (lx_eq.mpr (keq_trans h1 (lx_eq.mp z)))
      simp only [agg, q, q2, if_false, e]
theorem grp_congr {w ms p : Nat} {Kr Kr' : Nat → Nat → Int32} {C C' : Nat → Int64} {S L G S' L' G' : Nat → Nat → Int64} {k : Nat} {K1 : Nat → Nat → Int32} {C1 : Nat → Int64} {S1 L1 G1 : Nat → Nat → Int64} (hK : ∀ q, q < p → keq w (Kr q) (Kr' q)) (hC : ∀ q, q < p → C q = C' q) (hV : ∀ q m, q < p → m < ms → S q m = S' q m ∧ L q m = L' q m ∧ G q m = G' q m) (h : grp w ms p Kr C S L G k K1 C1 S1 L1 G1) : grp w ms p Kr' C' S' L' G' k K1 C1 S1 L1 G1 := by
  obtain ⟨h1, h2, h3, h4, h5⟩ := h
  refine ⟨fun j hj => ?_, fun q hq => ?_, h3, fun j hj => ?_, fun j m hj hm => ⟨?_, ?_, ?_⟩⟩
  · obtain ⟨q, q1, q2⟩ := h1 j hj
    exact ⟨q, q1, keq_trans (keq_symm (hK q q1)) q2⟩
  · obtain ⟨j, q1, q2⟩ := h2 q hq
    exact ⟨j, q1, keq_trans (keq_symm (hK q hq)) q2⟩
  · rw [← agg_congr2 p (fun q hq => ⟨hK q hq, hC q hq⟩)]; exact h4 j hj
  · rw [← agg_congr2 p (fun q hq => ⟨hK q hq, (hV q m hq hm).1⟩)]; exact (h5 j m hj hm).1
  · rw [← agg_congr2 p (fun q hq => ⟨hK q hq, (hV q m hq hm).2.1⟩)]; exact (h5 j m hj hm).2.1
  · rw [← agg_congr2 p (fun q hq => ⟨hK q hq, (hV q m hq hm).2.2⟩)]; exact (h5 j m hj hm).2.2
/-- the table that regroup leaves -/
def rgT (u : Nat) (σ1 : Nat → Nat) (ks : Nat → Int32) (ct1 sm1 le1 gr1 : Nat → Int64) : TB := (u, fun j i => ks (8 * σ1 j + i), fun j => ct1 (σ1 j), fun j m => sm1 (8 * σ1 j + m), fun j m => le1 (8 * σ1 j + m), fun j m => gr1 (8 * σ1 j + m))
theorem rg_roll {σ σ1 : Nat → Nat} {w mn i u : Nat} {T : TB} {ks : Nat → Int32} {sl1 : Nat → Int32} {ct sm le gr ct1 sm1 le1 gr1 : Nat → Int64} (hi : i < w) (inj : ∀ p q, p < 1000 → q < 1000 → σ p = σ q → p = q) (h : repT σ w mn T ks ct sm le gr) (hI : rgI w mn T.1 σ (rolA σ i ks T.1) ct sm le gr T.1 u σ1 sl1 ct1 sm1 le1 gr1) :
    rollR w mn i T (rgT u σ1 (rolA σ i ks T.1) ct1 sm1 le1 gr1) ∧ perm σ1 sl1 ∧ repT σ1 w mn (rgT u σ1 (rolA σ i ks T.1) ct1 sm1 le1 gr1) (rolA σ i ks T.1) ct1 sm1 le1 gr1 := by
  obtain ⟨⟨b1, b2, b3, b4⟩, hσ1, -, -, hs, hg⟩ := hI
  obtain ⟨⟨c1, c2, c3, c4⟩, r2, r3, r4, r5⟩ := h
  refine ⟨⟨hs, b1, grp_congr (fun q hq j hj => ?_) (fun q hq => r3 q hq) (fun q m hq hm => r4 q m hq hm) hg⟩, hσ1, ⟨⟨c1, c2, c3, by show u ≤ 1000; omega⟩, fun p _ => keq_rf _ _, fun p _ => rfl, fun p m _ _ => ⟨rfl, rfl, rfl⟩, hs⟩⟩
  show rolA σ i ks T.1 (8 * σ q + j) = rolK i T.2.1 q j
  rw [rolA_at (by omega) inj T.1 c4 q j hq (by omega)]
  unfold rolK
  by_cases e : j = i
  · rw [if_pos e, if_pos e]
  · rw [if_neg e, if_neg e]; exact r2 q hq j hj
