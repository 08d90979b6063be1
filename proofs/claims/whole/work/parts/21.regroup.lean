/-! regroup: what holds when p rows have been looked at -/
def rgI (wn mn n : Nat) (σ : Nat → Nat) (ks : Nat → Int32) (ct sm le gr : Nat → Int64) (pp kp : Nat) (σ1 : Nat → Nat) (sl1 : Nat → Int32) (ct1 sm1 le1 gr1 : Nat → Int64) : Prop :=
  (kp ≤ pp ∧ pp ≤ n ∧ n ≤ 1000 ∧ mn ≤ 8) ∧ perm σ1 sl1 ∧ (∀ q, pp ≤ q → q < 1000 → σ1 q = σ q) ∧
  (∀ q, pp ≤ q → q < n → ct1 (σ q) = ct (σ q) ∧ ∀ m, m < mn → sm1 (8 * σ q + m) = sm (8 * σ q + m) ∧ le1 (8 * σ q + m) = le (8 * σ q + m) ∧ gr1 (8 * σ q + m) = gr (8 * σ q + m)) ∧
  srt wn kp (fun j i => ks (8 * σ1 j + i)) ∧
  grp wn mn pp (fun p i => ks (8 * σ p + i)) (fun p => ct (σ p)) (fun p m => sm (8 * σ p + m)) (fun p m => le (8 * σ p + m)) (fun p m => gr (8 * σ p + m)) kp (fun j i => ks (8 * σ1 j + i)) (fun j => ct1 (σ1 j)) (fun j m => sm1 (8 * σ1 j + m)) (fun j m => le1 (8 * σ1 j + m)) (fun j m => gr1 (8 * σ1 j + m))
theorem rg_0 {wn mn n : Nat} {σ : Nat → Nat} {sl ks : Nat → Int32} {ct sm le gr : Nat → Int64} (hσ : perm σ sl) (hn : n ≤ 1000) (hm : mn ≤ 8) : rgI wn mn n σ ks ct sm le gr 0 0 σ sl ct sm le gr :=
  ⟨⟨Nat.le_refl _, Nat.zero_le _, hn, hm⟩, hσ, fun _ _ _ => rfl, fun _ _ _ => ⟨rfl, fun _ _ => ⟨rfl, rfl, rfl⟩⟩, fun p q _ h => by omega, grp_0 _ _ _ _ _ _ _ _ _ _ _ _⟩
theorem rg_hit {wn mn n : Nat} {σ : Nat → Nat} {ks : Nat → Int32} {ct sm le gr : Nat → Int64} {pp kp : Nat} {σ1 : Nat → Nat} {sl1 : Nat → Int32} {ct1 sm1 le1 gr1 : Nat → Int64} (h : rgI wn mn n σ ks ct sm le gr pp kp σ1 sl1 ct1 sm1 le1 gr1) (hp : pp < n) {ps : Nat} (hps : ps < kp) (he : keq wn (fun i => ks (8 * σ1 ps + i)) (fun i => ks (8 * σ pp + i))) :
    rgI wn mn n σ ks ct sm le gr (pp + 1) kp σ1 sl1 (vp_updL ct1 (σ1 ps) (ct1 (σ1 ps) + ct1 (σ pp))) (upTo (fun m x => x + sm1 (8 * σ pp + m)) (8 * σ1 ps) sm1 mn) (upTo (fun m x => if le1 (8 * σ pp + m) < x then le1 (8 * σ pp + m) else x) (8 * σ1 ps) le1 mn) (upTo (fun m x => if gr1 (8 * σ pp + m) < x then x else gr1 (8 * σ pp + m)) (8 * σ1 ps) gr1 mn) := by
  obtain ⟨⟨b1, b2, b3, b4⟩, hσ1, hq, hd, hs, hg⟩ := h
  have ne : ∀ q, pp ≤ q → q < n → σ q ≠ σ1 ps := fun q h1 h2 e => by
    rw [← hq q h1 (by omega)] at e
    have := hσ1.2.2 q ps (by omega) (by omega) e
    omega
  have ne1 : ∀ j, j < kp → j ≠ ps → σ1 j ≠ σ1 ps := fun j h1 h2 e => h2 (hσ1.2.2 j ps (by omega) (by omega) e)
  refine ⟨⟨by omega, by omega, b3, b4⟩, hσ1, fun q h1 h2 => hq q (by omega) h2, fun q h1 h2 => ?_, hs, grp_hit hg hps (keq_symm he) (fun j _ => keq_rf _ _) (fun j hj => ?_) (fun j m hj hm => ?_)⟩
  · have hne := ne q (by omega) h2
    obtain ⟨z1, z2⟩ := hd q (by omega) h2
    refine ⟨by rw [pk_uLn hne]; exact z1, fun m hm => ?_⟩
    rw [upTo_out mn (by omega), upTo_out mn (by omega), upTo_out mn (by omega)]
    exact z2 m hm
  · show vp_updL ct1 (σ1 ps) _ (σ1 j) = _
    by_cases q : j = ps
    · subst q; rw [pk_uLs, if_pos rfl, (hd pp (Nat.le_refl _) hp).1]; rfl
    · rw [pk_uLn (ne1 j hj q), if_neg q]
  · obtain ⟨z1, z2, z3⟩ := (hd pp (Nat.le_refl _) hp).2 m hm
    show upTo _ (8 * σ1 ps) sm1 mn (8 * σ1 j + m) = _ ∧ upTo _ (8 * σ1 ps) le1 mn (8 * σ1 j + m) = _ ∧ upTo _ (8 * σ1 ps) gr1 mn (8 * σ1 j + m) = _
    by_cases q : j = ps
    · subst q
      rw [upTo_at mn hm, upTo_at mn hm, upTo_at mn hm, if_pos rfl, if_pos rfl, if_pos rfl, z1, z2, z3]
      exact ⟨rfl, rfl, mx_comm _ _⟩
    · have := ne1 j hj q
      rw [upTo_out mn (by omega), upTo_out mn (by omega), upTo_out mn (by omega), if_neg q, if_neg q, if_neg q]
      exact ⟨rfl, rfl, rfl⟩
theorem rg_new {wn mn n : Nat} {σ : Nat → Nat} {ks : Nat → Int32} {ct sm le gr : Nat → Int64} {pp kp : Nat} {σ1 : Nat → Nat} {sl1 : Nat → Int32} {ct1 sm1 le1 gr1 : Nat → Int64} (h : rgI wn mn n σ ks ct sm le gr pp kp σ1 sl1 ct1 sm1 le1 gr1) (hp : pp < n) {ps : Nat} (hl : isLow wn kp (fun j i => ks (8 * σ1 j + i)) (fun i => ks (8 * σ pp + i)) ps) (hne : ps < kp → ¬ keq wn (fun i => ks (8 * σ1 ps + i)) (fun i => ks (8 * σ pp + i))) :
    rgI wn mn n σ ks ct sm le gr (pp + 1) (kp + 1) (insS σ1 ps kp pp) (insL (upd sl1 pp (sl1 kp)) ps kp (nI (σ pp))) ct1 sm1 le1 gr1 := by
  obtain ⟨⟨b1, b2, b3, b4⟩, hσ1, hq, hd, hs, hg⟩ := h
  have hps := hl.1
  have hpp : σ1 pp = σ pp := hq pp (Nat.le_refl _) (by omega)
  have hK : ∀ j, j < kp + 1 → (fun i => ks (8 * insS σ1 ps kp pp j + i)) = insF ps (fun i => ks (8 * σ pp + i)) (fun j i => ks (8 * σ1 j + i)) j := by
    intro j hj
    rcases Nat.lt_trichotomy j ps with q | q | q
    · rw [insS_lt q, insF_lt q]
    · subst q; rw [insS_eq, insF_eq, hpp]
    · rw [insS_mid q (by omega), insF_gt q]
  have hs' := srt_ins hs hl hne
  have hsn : srt wn (kp + 1) (fun j i => ks (8 * insS σ1 ps kp pp j + i)) := by
    intro p q h1 h2
    show klt wn (fun i => ks (8 * insS σ1 ps kp pp p + i)) (fun i => ks (8 * insS σ1 ps kp pp q + i))
    rw [hK p (by omega), hK q h2]
    exact hs' p q h1 h2
  refine ⟨⟨by omega, by omega, b3, b4⟩, perm_ins hσ1 hps b1 (by omega) (fun q hq9 => ?_), fun q h1 h2 => (insS_hi hps b1 (by omega)).trans (hq q (by omega) h2), fun q h1 h2 => hd q (by omega) h2, hsn, grp_new hg hps (fun j hj e => ?_) (fun j hj => ?_) (fun j hj => ?_) (fun j m hj hm => ?_)⟩
  · unfold insL upd
    by_cases q1 : q < ps
    · rw [if_pos q1, if_pos q1, if_neg (by omega)]
    · rw [if_neg q1, if_neg q1]
      by_cases q2 : q = ps
      · rw [if_pos q2, if_pos q2, hσ1.1 pp (by omega), hpp]
      · rw [if_neg q2, if_neg q2]
        by_cases q3 : q ≤ kp
        · rw [if_pos q3, if_pos q3, if_neg (by omega)]
        · rw [if_neg q3, if_neg q3]
  · rcases Nat.lt_or_ge j ps with q | q
    · have z := hs' j ps q (by omega)
      rw [insF_lt q, insF_eq] at z
      exact klt_not_keq z (keq_symm e)
    · have z := hs' ps (j + 1) (by omega) (by omega)
      rw [insF_eq, insF_gt (by omega), Nat.add_sub_cancel] at z
      exact klt_not_keq z e
  · have z := hK j hj
    intro i _
    exact (congrFun z i).symm
  · show ct1 (insS σ1 ps kp pp j) = _
    rcases Nat.lt_trichotomy j ps with q | q | q
    · rw [insS_lt q, insF_lt q]
    · subst q; rw [insS_eq, insF_eq, hpp]; exact (hd pp (Nat.le_refl _) hp).1
    · rw [insS_mid q (by omega), insF_gt q]
  · show sm1 (8 * insS σ1 ps kp pp j + m) = _ ∧ le1 (8 * insS σ1 ps kp pp j + m) = _ ∧ gr1 (8 * insS σ1 ps kp pp j + m) = _
    rcases Nat.lt_trichotomy j ps with q | q | q
    · rw [insS_lt q, insF_lt q, insF_lt q, insF_lt q]; exact ⟨rfl, rfl, rfl⟩
    · subst q; rw [insS_eq, insF_eq, insF_eq, insF_eq, hpp]; exact (hd pp (Nat.le_refl _) hp).2 m hm
    · rw [insS_mid q (by omega), insF_gt q, insF_gt q, insF_gt q]; exact ⟨rfl, rfl, rfl⟩
