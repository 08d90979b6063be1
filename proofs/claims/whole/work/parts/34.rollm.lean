/-! the model's roll: rows that are alike, then in order -/
def ddI (wn mn n : Nat) (ks : Nat → Int32) (ct sm le gr : Nat → Int64) (pp kp : Nat) (ks1 : Nat → Int32) (ct1 sm1 le1 gr1 : Nat → Int64) : Prop :=
  (kp ≤ pp ∧ pp ≤ n ∧ n ≤ 1000 ∧ mn ≤ 8 ∧ wn ≤ 8) ∧
  (∀ q, pp ≤ q → q < n → ct1 q = ct q ∧ ∀ m, m < 8 → ks1 (8 * q + m) = ks (8 * q + m) ∧ sm1 (8 * q + m) = sm (8 * q + m) ∧ le1 (8 * q + m) = le (8 * q + m) ∧ gr1 (8 * q + m) = gr (8 * q + m)) ∧
  grp wn mn pp (fun p i => ks (8 * p + i)) (fun p => ct p) (fun p m => sm (8 * p + m)) (fun p m => le (8 * p + m)) (fun p m => gr (8 * p + m)) kp (fun j i => ks1 (8 * j + i)) (fun j => ct1 j) (fun j m => sm1 (8 * j + m)) (fun j m => le1 (8 * j + m)) (fun j m => gr1 (8 * j + m))
theorem dd_0 {wn mn n : Nat} {ks : Nat → Int32} {ct sm le gr : Nat → Int64} (hn : n ≤ 1000) (hm : mn ≤ 8) (hw : wn ≤ 8) : ddI wn mn n ks ct sm le gr 0 0 ks ct sm le gr :=
  ⟨⟨Nat.le_refl _, Nat.zero_le _, hn, hm, hw⟩, fun _ _ _ => ⟨rfl, fun _ _ => ⟨rfl, rfl, rfl, rfl⟩⟩, grp_0 _ _ _ _ _ _ _ _ _ _ _ _⟩
theorem dd_hit {wn mn n : Nat} {ks : Nat → Int32} {ct sm le gr : Nat → Int64} {pp kp : Nat} {ks1 : Nat → Int32} {ct1 sm1 le1 gr1 : Nat → Int64} (h : ddI wn mn n ks ct sm le gr pp kp ks1 ct1 sm1 le1 gr1) (hp : pp < n) {ps : Nat} (hps : ps < kp) (he : keq wn (fun i => ks1 (8 * ps + i)) (fun i => ks1 (8 * pp + i))) :
    ddI wn mn n ks ct sm le gr (pp + 1) kp ks1 (vp_updL ct1 ps (ct1 ps + ct1 pp)) (upTo (fun m x => x + sm1 (8 * pp + m)) (8 * ps) sm1 mn) (upTo (fun m x => if le1 (8 * pp + m) < x then le1 (8 * pp + m) else x) (8 * ps) le1 mn) (upTo (fun m x => if x < gr1 (8 * pp + m) then gr1 (8 * pp + m) else x) (8 * ps) gr1 mn) := by
  obtain ⟨⟨b1, b2, b3, b4, b5⟩, hd, hg⟩ := h
  obtain ⟨y1, y2⟩ := hd pp (Nat.le_refl _) hp
  refine ⟨⟨by omega, by omega, b3, b4, b5⟩, fun q h1 h2 => ?_, grp_hit hg hps (fun i hi => ?_) (fun j _ => keq_rf _ _) (fun j hj => ?_) (fun j m hj hm => ?_)⟩
  · obtain ⟨z1, z2⟩ := hd q (by omega) h2
    refine ⟨by rw [pk_uLn (by omega)]; exact z1, fun m hm => ?_⟩
    rw [upTo_out mn (by omega), upTo_out mn (by omega), upTo_out mn (by omega)]
    exact z2 m hm
  · show ks (8 * pp + i) = ks1 (8 * ps + i)
    rw [← (y2 i (by omega)).1]
    exact (he i hi).symm
  · show vp_updL ct1 ps _ j = _
    by_cases q : j = ps
    · subst q; rw [pk_uLs, if_pos rfl, y1]; rfl
    · rw [pk_uLn q, if_neg q]
  · obtain ⟨-, z1, z2, z3⟩ := y2 m (by omega)
    show upTo _ (8 * ps) sm1 mn (8 * j + m) = _ ∧ upTo _ (8 * ps) le1 mn (8 * j + m) = _ ∧ upTo _ (8 * ps) gr1 mn (8 * j + m) = _
    by_cases q : j = ps
    · subst q
      rw [upTo_at mn hm, upTo_at mn hm, upTo_at mn hm, if_pos rfl, if_pos rfl, if_pos rfl, z1, z2, z3]
      exact ⟨rfl, rfl, rfl⟩
    · rw [upTo_out mn (by omega), upTo_out mn (by omega), upTo_out mn (by omega), if_neg q, if_neg q, if_neg q]
      exact ⟨rfl, rfl, rfl⟩
theorem dd_new {wn mn n : Nat} {ks : Nat → Int32} {ct sm le gr : Nat → Int64} {pp kp : Nat} {ks1 : Nat → Int32} {ct1 sm1 le1 gr1 : Nat → Int64} (h : ddI wn mn n ks ct sm le gr pp kp ks1 ct1 sm1 le1 gr1) (hp : pp < n) (hne : ∀ j, j < kp → ¬ keq wn (fun i => ks1 (8 * j + i)) (fun i => ks1 (8 * pp + i))) :
    ddI wn mn n ks ct sm le gr (pp + 1) (kp + 1) (upToI (fun m _ => ks1 (8 * pp + m)) (8 * kp) ks1 8) (vp_updL ct1 kp (ct1 pp)) (upTo (fun m _ => sm1 (8 * pp + m)) (8 * kp) sm1 8) (upTo (fun m _ => le1 (8 * pp + m)) (8 * kp) le1 8) (upTo (fun m _ => gr1 (8 * pp + m)) (8 * kp) gr1 8) := by
  obtain ⟨⟨b1, b2, b3, b4, b5⟩, hd, hg⟩ := h
  obtain ⟨y1, y2⟩ := hd pp (Nat.le_refl _) hp
  refine ⟨⟨by omega, by omega, b3, b4, b5⟩, fun q h1 h2 => ?_, grp_new hg (Nat.le_refl kp) (fun j hj e => ?_) (fun j hj i hi => ?_) (fun j hj => ?_) (fun j m hj hm => ?_)⟩
  · obtain ⟨z1, z2⟩ := hd q (by omega) h2
    refine ⟨by rw [pk_uLn (by omega)]; exact z1, fun m hm => ?_⟩
    rw [upToI_out 8 (by omega), upTo_out 8 (by omega), upTo_out 8 (by omega), upTo_out 8 (by omega)]
    exact z2 m hm
  · exact hne j hj (fun i hi => by
      have a := e i hi
      have c := (y2 i (by omega)).1
      show ks1 (8 * j + i) = ks1 (8 * pp + i)
      rw [c]; exact a.symm)
  · show insF kp (fun i => ks (8 * pp + i)) (fun j i => ks1 (8 * j + i)) j i = upToI _ (8 * kp) ks1 8 (8 * j + i)
    rcases Nat.lt_or_ge j kp with q | q
    · rw [insF_lt q, upToI_out 8 (by omega)]
    · have : j = kp := by omega
      subst this
      rw [insF_eq, upToI_at 8 (by omega)]
      exact (y2 i (by omega)).1.symm
  · show vp_updL ct1 kp (ct1 pp) j = _
    rcases Nat.lt_or_ge j kp with q | q
    · rw [insF_lt q, pk_uLn (by omega)]
    · have : j = kp := by omega
      subst this
      rw [insF_eq, pk_uLs]; exact y1
  · obtain ⟨-, z1, z2, z3⟩ := y2 m (by omega)
    show upTo _ (8 * kp) sm1 8 (8 * j + m) = _ ∧ upTo _ (8 * kp) le1 8 (8 * j + m) = _ ∧ upTo _ (8 * kp) gr1 8 (8 * j + m) = _
    rcases Nat.lt_or_ge j kp with q | q
    · rw [insF_lt q, insF_lt q, insF_lt q, upTo_out 8 (by omega), upTo_out 8 (by omega), upTo_out 8 (by omega)]; exact ⟨rfl, rfl, rfl⟩
    · have : j = kp := by omega
      subst this
      rw [insF_eq, insF_eq, insF_eq, upTo_at 8 (by omega), upTo_at 8 (by omega), upTo_at 8 (by omega)]; exact ⟨z1, z2, z3⟩
/-- two rows change places -/
def swI (f : Nat → Int32) (x y : Nat) : Nat → Nat → Int32
  | 0 => f
  | k + 1 => upd (upd (swI f x y k) (8 * x + k) (swI f x y k (8 * y + k))) (8 * y + k) (swI f x y k (8 * x + k))
def swL (f : Nat → Int64) (x y : Nat) : Nat → Nat → Int64
  | 0 => f
  | k + 1 => vp_updL (vp_updL (swL f x y k) (8 * x + k) (swL f x y k (8 * y + k))) (8 * y + k) (swL f x y k (8 * x + k))
/-- which row stands at a place then -/
def tsp (x y : Nat) : Nat → Nat := fun p => if p = x then y else if p = y then x else p
theorem tsp_tsp (x y p : Nat) : tsp x y (tsp x y p) = p := by
  unfold tsp
  repeat' split
  all_goals omega
theorem tsp_lt {x y n p : Nat} (hx : x < n) (hy : y < n) (hp : p < n) : tsp x y p < n := by
  unfold tsp
  repeat' split
  all_goals omega
theorem swI_k {f : Nat → Int32} {x y : Nat} (hxy : x ≠ y) : ∀ k, k ≤ 8 → ∀ p m, m < 8 → swI f x y k (8 * p + m) = if m < k then f (8 * tsp x y p + m) else f (8 * p + m) := by
  intro k
  induction k with
  | zero => intro _ p m _; rw [if_neg (by omega)]; rfl
  | succ k ih =>
    intro hk p m hm
    show upd (upd (swI f x y k) (8 * x + k) _) (8 * y + k) _ (8 * p + m) = _
    have e1 := ih (by omega) y k (by omega)
    have e2 := ih (by omega) x k (by omega)
    rw [if_neg (by omega)] at e1 e2
    rw [e1, e2]
    by_cases q1 : m = k
    · subst q1
      rw [if_pos (by omega)]
      by_cases q2 : p = y
      · subst q2; rw [pk_us]; simp [tsp, hxy.symm]
      · rw [pk_un (by omega)]
        by_cases q3 : p = x
        · subst q3; rw [pk_us]; simp [tsp]
        · rw [pk_un (by omega), ih (by omega) p m hm, if_neg (by omega)]; simp [tsp, q2, q3]
    · rw [pk_un (by omega), pk_un (by omega), ih (by omega) p m hm]
      by_cases q2 : m < k
      · rw [if_pos q2, if_pos (by omega)]
      · rw [if_neg q2, if_neg (by omega)]
theorem swL_k {f : Nat → Int64} {x y : Nat} (hxy : x ≠ y) : ∀ k, k ≤ 8 → ∀ p m, m < 8 → swL f x y k (8 * p + m) = if m < k then f (8 * tsp x y p + m) else f (8 * p + m) := by
  intro k
  induction k with
  | zero => intro _ p m _; rw [if_neg (by omega)]; rfl
  | succ k ih =>
    intro hk p m hm
    show vp_updL (vp_updL (swL f x y k) (8 * x + k) _) (8 * y + k) _ (8 * p + m) = _
    have e1 := ih (by omega) y k (by omega)
    have e2 := ih (by omega) x k (by omega)
    rw [if_neg (by omega)] at e1 e2
    rw [e1, e2]
    by_cases q1 : m = k
    · subst q1
      rw [if_pos (by omega)]
      by_cases q2 : p = y
      · subst q2; rw [pk_uLs]; simp [tsp, hxy.symm]
      · rw [pk_uLn (by omega)]
        by_cases q3 : p = x
        · subst q3; rw [pk_uLs]; simp [tsp]
        · rw [pk_uLn (by omega), ih (by omega) p m hm, if_neg (by omega)]; simp [tsp, q2, q3]
    · rw [pk_uLn (by omega), pk_uLn (by omega), ih (by omega) p m hm]
      by_cases q2 : m < k
      · rw [if_pos q2, if_pos (by omega)]
      · rw [if_neg q2, if_neg (by omega)]
theorem swI_8 {f : Nat → Int32} {x y : Nat} (hxy : x ≠ y) {p m : Nat} (hm : m < 8) : swI f x y 8 (8 * p + m) = f (8 * tsp x y p + m) := by rw [swI_k hxy 8 (Nat.le_refl _) p m hm, if_pos hm]
theorem swL_8 {f : Nat → Int64} {x y : Nat} (hxy : x ≠ y) {p m : Nat} (hm : m < 8) : swL f x y 8 (8 * p + m) = f (8 * tsp x y p + m) := by rw [swL_k hxy 8 (Nat.le_refl _) p m hm, if_pos hm]
theorem swC {f : Nat → Int64} {x y : Nat} (hxy : x ≠ y) (p : Nat) : vp_updL (vp_updL f x (f y)) y (f x) p = f (tsp x y p) := by
  by_cases q2 : p = y
  · subst q2; rw [pk_uLs]; simp [tsp, hxy.symm]
  · rw [pk_uLn q2]
    by_cases q3 : p = x
    · subst q3; rw [pk_uLs]; simp [tsp]
    · rw [pk_uLn q3]; simp [tsp, q2, q3]
theorem grp_perm {w ms p : Nat} {Kr : Nat → Nat → Int32} {C : Nat → Int64} {S L G : Nat → Nat → Int64} {k : Nat} {K1 K2 : Nat → Nat → Int32} {C1 C2 : Nat → Int64} {S1 L1 G1 S2 L2 G2 : Nat → Nat → Int64} {τ : Nat → Nat} (ht : ∀ j, τ (τ j) = j) (hlt : ∀ j, j < k → τ j < k) (h : grp w ms p Kr C S L G k K1 C1 S1 L1 G1)
    (hK : ∀ j, j < k → keq w (K1 (τ j)) (K2 j)) (hC : ∀ j, j < k → C2 j = C1 (τ j)) (hV : ∀ j m, j < k → m < ms → S2 j m = S1 (τ j) m ∧ L2 j m = L1 (τ j) m ∧ G2 j m = G1 (τ j) m) : grp w ms p Kr C S L G k K2 C2 S2 L2 G2 := by
  obtain ⟨h1, h2, h3, h4, h5⟩ := h
  refine ⟨fun j hj => ?_, fun q hq => ?_, fun i j hi hj e => ?_, fun j hj => ?_, fun j m hj hm => ?_⟩
  · obtain ⟨q, q1, q2⟩ := h1 (τ j) (hlt j hj)
    exact ⟨q, q1, keq_trans q2 (hK j hj)⟩
  · obtain ⟨j, q1, q2⟩ := h2 q hq
    have := hK (τ j) (hlt j q1)
    rw [ht] at this
    exact ⟨τ j, hlt j q1, keq_trans q2 this⟩
  · have := h3 (τ i) (τ j) (hlt i hi) (hlt j hj) (keq_trans (hK i hi) (keq_trans e (keq_symm (hK j hj))))
    rw [← ht i, ← ht j, this]
  · rw [← agg_congr (hK j hj), h4 (τ j) (hlt j hj), hC j hj]
  · obtain ⟨z1, z2, z3⟩ := h5 (τ j) m (hlt j hj) hm
    obtain ⟨y1, y2, y3⟩ := hV j m hj hm
    rw [← agg_congr (hK j hj), ← agg_congr (hK j hj), ← agg_congr (hK j hj), z1, z2, z3, y1, y2, y3]
    exact ⟨rfl, rfl, rfl⟩
/-- the first r rows are in order, and ahead of all others -/
def srtI (w n r : Nat) (K : Nat → Nat → Int32) : Prop := ∀ p q, p < q → q < n → p < r → klt w (K p) (K q)
theorem srtI_swap {w n r y : Nat} {K K2 : Nat → Nat → Int32} (h : srtI w n r K) (hr : r < n) (hy : r ≤ y) (hyn : y < n) (hd : ∀ i j, i < n → j < n → keq w (K i) (K j) → i = j) (hmin : ∀ j, r ≤ j → j < n → ¬ klt w (K j) (K y)) (hK : ∀ j, j < n → keq w (K (tsp r y j)) (K2 j)) : srtI w n (r + 1) K2 := by
  intro p q h1 h2 h3
  refine klt_congr (hK p (by omega)) (hK q h2) ?_
  have hq : tsp r y q < n := tsp_lt hr hyn h2
  have hqr : r ≤ q → r ≤ tsp r y q := fun h => by
    unfold tsp
    repeat' split
    all_goals omega
  rcases Nat.lt_or_ge p r with z | z
  · have ep : tsp r y p = p := by unfold tsp; rw [if_neg (by omega), if_neg (by omega)]
    rw [ep]
    rcases Nat.lt_or_ge q r with z2 | z2
    · have eq : tsp r y q = q := by unfold tsp; rw [if_neg (by omega), if_neg (by omega)]
      rw [eq]; exact h p q h1 h2 z
    · have := hqr z2
      exact h p (tsp r y q) (by omega) hq z
  · have e : p = r := by omega
    subst e
    have ep : tsp p y p = y := by unfold tsp; rw [if_pos rfl]
    rw [ep]
    have hge := hqr (by omega)
    rcases k_tri w (K y) (K (tsp p y q)) with t | t | t
    · exact t
    · have e2 := hd y _ hyn hq t
      exfalso
      unfold tsp at e2
      repeat' split at e2
      all_goals omega
    · exact absurd t (hmin _ hge hq)
theorem srtI_same {w n r : Nat} {K : Nat → Nat → Int32} (h : srtI w n r K) (hd : ∀ i j, i < n → j < n → keq w (K i) (K j) → i = j) (hmin : ∀ j, r ≤ j → j < n → ¬ klt w (K j) (K r)) : srtI w n (r + 1) K := by
  intro p q h1 h2 h3
  rcases Nat.lt_or_ge p r with z | z
  · exact h p q h1 h2 z
  · have e : p = r := by omega
    subst e
    rcases k_tri w (K p) (K q) with t | t | t
    · exact t
    · have := hd p q (by omega) h2 t; omega
    · exact absurd t (hmin q (by omega) h2)
theorem dd_roll {w mn i u : Nat} {T : TB} {ks ks1 : Nat → Int32} {ct sm le gr ct1 sm1 le1 gr1 : Nat → Int64} (hi : i < w) (h : repT (fun p => p) w mn T ks ct sm le gr) (hu : u ≤ T.1) (hs : srt w u (fun j i => ks1 (8 * j + i)))
    (hg : grp w mn T.1 (fun p j => rolA (fun p => p) i ks T.1 (8 * p + j)) (fun p => ct p) (fun p m => sm (8 * p + m)) (fun p m => le (8 * p + m)) (fun p m => gr (8 * p + m)) u (fun j i => ks1 (8 * j + i)) (fun j => ct1 j) (fun j m => sm1 (8 * j + m)) (fun j m => le1 (8 * j + m)) (fun j m => gr1 (8 * j + m))) :
    rollR w mn i T (rgT u (fun p => p) ks1 ct1 sm1 le1 gr1) ∧ repT (fun p => p) w mn (rgT u (fun p => p) ks1 ct1 sm1 le1 gr1) ks1 ct1 sm1 le1 gr1 := by
  obtain ⟨⟨c1, c2, c3, c4⟩, r2, r3, r4, r5⟩ := h
  refine ⟨⟨hs, hu, grp_congr (fun q hq j hj => ?_) (fun q hq => r3 q hq) (fun q m hq hm => r4 q m hq hm) hg⟩, ⟨⟨c1, c2, c3, by show u ≤ 1000; omega⟩, fun p _ => keq_rf _ _, fun p _ => rfl, fun p m _ _ => ⟨rfl, rfl, rfl⟩, hs⟩⟩
  show rolA (fun p => p) i ks T.1 (8 * q + j) = rolK i T.2.1 q j
  have e := rolA_at (σ := fun p => p) (ks := ks) (i := i) (by omega) (fun p q _ _ h => h) T.1 c4 q j hq (by omega)
  have e : rolA (fun p => p) i ks T.1 (8 * q + j) = if j = i then 2147483647 else ks (8 * q + j) := e
  rw [e]
  unfold rolK
  by_cases e : j = i
  · rw [if_pos e, if_pos e]
  · rw [if_neg e, if_neg e]; exact r2 q hq j hj
