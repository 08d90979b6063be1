set_option maxHeartbeats 4000000 in
set_option maxRecDepth 100000 in
/-- what a throw needs, at the entry -/
theorem thr_start {s : State} {sb : Nat} (hts : ∀ w ∈ lw_tbl, w.before #[Value.ref sb] s = true) (hgv : (Jvm.Cond.and given_1 narrow_1).before #[Value.ref sb] s = true) : thrE (fun q : Nat => s.heap.size ≤ q) s s.heap := by
  have hs := flat_of_before _ hgv
  have str : ∀ (k : Nat) (tx : String), Cond.stringRef "GroupRows" k tx ∈ lw_tbl → Cond.exactly (.string "GroupRows" k) "java/lang/String" ∈ flatC (Jvm.Cond.and given_1 narrow_1) → ∃ sa, vk_R "GroupRows" k tx sa s := by
    intro k tx h1 h2
    obtain ⟨a, c, cell, k9, h3, -⟩ := Cond.exactly_spec (hs _ h2)
    exact ⟨a, vk_R.of (hts _ h1) h3⟩
  have hA : ∀ a : Nat, a < s.heap.size → ¬ (fun q : Nat => s.heap.size ≤ q) a := fun a h => Nat.not_le.mpr h
  refine ⟨⟨va_Nw.of rfl (hts _ (by decide +kernel)), va_Nw.of rfl (hts _ (by decide +kernel)), va_Nw.of rfl (hts _ (by decide +kernel)), va_Nw.of rfl (hts _ (by decide +kernel))⟩, ?_, vx_Zqof (hts _ (by decide +kernel)) (hts _ (by decide +kernel)) (hs _ (by decide +kernel)) hA, vx_Zqof (hts _ (by decide +kernel)) (hts _ (by decide +kernel)) (hs _ (by decide +kernel)) hA⟩
  intro q hq
  simp only [thrS, List.mem_cons, List.not_mem_nil, or_false] at hq
  rcases hq with rfl | rfl | rfl | rfl | rfl | rfl | rfl | rfl
  · exact str 47 "width is not 0 .. 8" (by decide +kernel) (by decide +kernel)
  · exact str 52 "measures is not 1 .. 8" (by decide +kernel) (by decide +kernel)
  · exact str 67 "there is no such part" (by decide +kernel) (by decide +kernel)
  · exact str 72 "there is no such measure" (by decide +kernel) (by decide +kernel)
  · exact str 75 "n is not 1 .. 100000" (by decide +kernel) (by decide +kernel)
  · exact str 80 "n is not 1 .. 5000" (by decide +kernel) (by decide +kernel)
  · exact str 102 "there is no such row" (by decide +kernel) (by decide +kernel)
  · exact str 104 "what is not 0 .. 2" (by decide +kernel) (by decide +kernel)
set_option maxHeartbeats 4000000 in
set_option maxRecDepth 100000 in
/-- the law, from its entry -/
theorem whole_start {p : Program} {e : Env} {s : State} {m : MethodId} {below : List Frame} {meth : Method} {c : Code} (l : Launch) (hnt : l.stackTraces = false) {sb L : Nat} {xs : Nat → Int32} (hL : L ≤ 2048) (C0 : lw_At p s m meth c sb L xs) : W p l e room_1 s m #[Value.ref sb] below meth c s.heap [] 0 0 (lw_Z below #[Value.ref sb] s) (entryFrame m ([Value.ref sb] : List Value).toArray 8) := by
  obtain ⟨hx, hb, hr, hml, hown, hts, hX, hbl, hlocks, hgv⟩ := id C0
  have hT := thr_start hts hgv
  have hta : ∀ w ∈ wAll, w.before #[Value.ref sb] s = true := fun w h => hts w (wA_tbl h)
  have hown : s.vm.findClass "GroupRowsLaw" = some m.cls := hown
  have hA : ∀ q : Nat, s.heap.size ≤ q → (fun q : Nat => s.heap.size ≤ q) q := fun _ h => h
  obtain ⟨c0, iS0, hKn0⟩ := u_known (C := "GroupRows") (T := FX) (N := 11) (n := 11) hta inX (hta _ w12)
  obtain ⟨c1, iS1, hKn1⟩ := u_known (C := "GroupRowsModel") (T := FM) (N := 11) (n := 11) hta inM (hta _ w273)
  obtain ⟨dC, dI, hKc⟩ : ∃ (dC : Nat → ClassId) (dI : Nat → Nat → Nat), ∀ (k : Nat) (q : vw_C), classes[k]? = some q → u_Kn s q.1 q.2.1 q.2.2 (dC k) (dI k) := by
    refine ⟨fun k => if k = 0 then c0 else c1, fun k => if k = 0 then iS0 else iS1, ?_⟩
    intro k q hq
    match k, hq with
    | 0, hq => cases hq; exact hKn0
    | 1, hq => cases hq; exact hKn1
    | k + 2, hq => simp [classes] at hq
  have hS : va_S (fun q : Nat => s.heap.size ≤ q) s.heap s.heap [] := va_S.rf
  have hK : va_K (dC, dI) classes [] s := ⟨hKc, fun k q h => by simp at h⟩
  have hP : va_P (dC, dI) classes [] s.heap := fun k q h => by simp at h
  have hD : va_D (fun q : Nat => s.heap.size ≤ q) [] := ⟨fun i j p q h => by simp at h, fun k q h => by simp at h⟩
  have hl := lv_entry ([.ref sb]) (n := 8) (Nat.le_of_ble_eq_true rfl)
  rw [lg_entry_eq]
  generalize (lg_sl ([.ref sb]) ++ List.replicate (8 - (lg_sl ([.ref sb])).length) Slot.unset).toArray = ls at hl ⊢
  have hl : lv_has ls 8 [(0, .ref sb)] := hl
  refine va_new (ci := 0) (fs := [.int 0, .int 0, .int 0, .null, .null, .null, .null, .null, .null, .null, .null]) (C := "GroupRows") (T := FX) (N := 11) hx hb hta inX tX tXok hown (hta _ w11) (hta _ w12) (hta _ w1) hK hP hD hS hA rfl (fun j hj => by rcases (show j = 0 ∨ j = 1 ∨ j = 2 ∨ j = 3 ∨ j = 4 ∨ j = 5 ∨ j = 6 ∨ j = 7 ∨ j = 8 ∨ j = 9 ∨ j = 10 by omega) with rfl | rfl | rfl | rfl | rfl | rfl | rfl | rfl | rfl | rfl | rfl <;> rfl) (Nat.le_of_ble_eq_true rfl) (Nat.le_of_ble_eq_true rfl) dL_law_0 (fun qx H hP hD hS => ?_)
  have hP : va_P (dC, dI) classes [(qx, .inr (0, [.int 0, .int 0, .int 0, .null, .null, .null, .null, .null, .null, .null, .null]))] H := hP
  have hD : va_D (fun q : Nat => s.heap.size ≤ q) [(qx, .inr (0, [.int 0, .int 0, .int 0, .null, .null, .null, .null, .null, .null, .null, .null]))] := hD
  refine W.cs (cells' := 1) (slots' := 11) rfl rfl ?_
  refine lv_dup hx hb dL_law_3 rfl ?_
  have hPc := hP.sub (ws' := [(qx, .inr (0, [.int 0, .int 0, .int 0, .null, .null, .null, .null, .null, .null, .null, .null]))]) [0] rfl
  have hDc := hD.sub (ws' := [(qx, .inr (0, [.int 0, .int 0, .int 0, .null, .null, .null, .null, .null, .null, .null, .null]))]) [0] (by decide) rfl
  have hKc := hK.sub (tys' := []) [] rfl
  have hFc := va_free (wc := [(qx, .inr (0, [.int 0, .int 0, .int 0, .null, .null, .null, .null, .null, .null, .null, .null]))]) hD hS hA [0] rfl
  refine va_callv (va_runI (As := []) (rest := [.ref qx]) ⟨hx, hb, hml, hown, hta⟩ (c_Xinit l dC dI qx H.size) (cwI 0 hta (gI w15) rfl rfl rfl (hta _ w1) (hta _ w13) (hta _ w14) rfl (by decide +kernel) ⟨Nat.le_of_ble_eq_true rfl, Nat.le_of_ble_eq_true rfl⟩) ⟨gb_W, fun U hU hW => ⟨rfl, by rw [hU], by rw [hU]; exact hPc, va_K.moved hW.alike hKc, hDc.weaken (fun _ _ _ _ => trivial)⟩⟩ rfl rfl hl.1 rfl (lv_room (Nat.le_of_ble_eq_true rfl)) dL_law_4 ⟨Nat.le_of_ble_eq_true rfl, Nat.le_of_ble_eq_true rfl⟩) hS (fun q _ h => hFc q h) hFc (fun u t H1 locs ht hvm hw hB hz1 hk1 hS => ?_)
  obtain ⟨a, k, e0, σ, sl, ks, ct, sm, le, gr, ⟨hσ, hrep⟩, hP1, hK1, hD1⟩ := hB
  subst e0
  rw [ht] at hP1
  have hK1 := va_K.moved hvm.symm hK1
  obtain ⟨hP, hD⟩ := va_join (wr := []) (w1 := (wX a k (nI 0) (nI 1) (nI TB0.1) (fun _ => 0) (fun _ => 0) sl ks ct sm le gr)) hP hD [0] [] rfl rfl (by decide) (by decide) hk1 hFc hP1 hD1
  have hK := (hK.sub (tys' := []) [] rfl).app hK1
  generalize H1 = H at hP hS ⊢
  have hP : va_P (dC, dI) classes (wX a k (nI 0) (nI 1) (nI TB0.1) (fun _ => 0) (fun _ => 0) sl ks ct sm le gr) H := hP
  have hD : va_D (fun q : Nat => s.heap.size ≤ q) (wX a k (nI 0) (nI 1) (nI TB0.1) (fun _ => 0) (fun _ => 0) sl ks ct sm le gr) := hD
  have hK : va_K (dC, dI) classes (kX k) s := hK
  refine W.cs (cells' := 9) (slots' := 34027) rfl rfl ?_
  refine lv_astore_n (lv' := [(1, .ref (a 0)), (0, .ref sb)]) hx hb dL_law_7 rfl hl (by decide) rfl (fun ls hl => ?_)
  refine va_new (ci := 1) (fs := [.int 0, .int 0, .int 0, .int 0, .null, .null, .null, .null, .null, .null, .null]) (C := "GroupRowsModel") (T := FM) (N := 11) hx hb hta inM tM tMok hown (hta _ w272) (hta _ w273) (hta _ w2) hK hP hD hS hA rfl (fun j hj => by rcases (show j = 0 ∨ j = 1 ∨ j = 2 ∨ j = 3 ∨ j = 4 ∨ j = 5 ∨ j = 6 ∨ j = 7 ∨ j = 8 ∨ j = 9 ∨ j = 10 by omega) with rfl | rfl | rfl | rfl | rfl | rfl | rfl | rfl | rfl | rfl | rfl <;> rfl) (Nat.le_of_ble_eq_true rfl) (Nat.le_of_ble_eq_true rfl) dL_law_8 (fun qm H hP hD hS => ?_)
  have hP : va_P (dC, dI) classes ((wX a k (nI 0) (nI 1) (nI TB0.1) (fun _ => 0) (fun _ => 0) sl ks ct sm le gr) ++ [(qm, .inr (1, [.int 0, .int 0, .int 0, .int 0, .null, .null, .null, .null, .null, .null, .null]))]) H := hP
  have hD : va_D (fun q : Nat => s.heap.size ≤ q) ((wX a k (nI 0) (nI 1) (nI TB0.1) (fun _ => 0) (fun _ => 0) sl ks ct sm le gr) ++ [(qm, .inr (1, [.int 0, .int 0, .int 0, .int 0, .null, .null, .null, .null, .null, .null, .null]))]) := hD
  refine W.cs (cells' := 10) (slots' := 34038) rfl rfl ?_
  refine lv_dup hx hb dL_law_11 rfl ?_
  have hPc := hP.sub (ws' := [(qm, .inr (1, [.int 0, .int 0, .int 0, .int 0, .null, .null, .null, .null, .null, .null, .null]))]) [9] rfl
  have hDc := hD.sub (ws' := [(qm, .inr (1, [.int 0, .int 0, .int 0, .int 0, .null, .null, .null, .null, .null, .null, .null]))]) [9] (by decide) rfl
  have hKc := hK.sub (tys' := []) [] rfl
  have hFc := va_free (wc := [(qm, .inr (1, [.int 0, .int 0, .int 0, .int 0, .null, .null, .null, .null, .null, .null, .null]))]) hD hS hA [9] rfl
  refine va_callv (va_runI (As := []) (rest := [.ref qm]) ⟨hx, hb, hml, hown, hta⟩ (c_Minit l dC dI qm H.size) (cwI 0 hta (gI w276) rfl rfl rfl (hta _ w2) (hta _ w274) (hta _ w275) rfl (by decide +kernel) ⟨Nat.le_of_ble_eq_true rfl, Nat.le_of_ble_eq_true rfl⟩) ⟨gb_W, fun U hU hW => ⟨rfl, by rw [hU], by rw [hU]; exact hPc, va_K.moved hW.alike hKc, hDc.weaken (fun _ _ _ _ => trivial)⟩⟩ rfl rfl hl.1 rfl (lv_room (Nat.le_of_ble_eq_true rfl)) dL_law_12 ⟨Nat.le_of_ble_eq_true rfl, Nat.le_of_ble_eq_true rfl⟩) hS (fun q _ h => hFc q h) hFc (fun u t H1 locs ht hvm hw hB hz1 hk1 hS => ?_)
  obtain ⟨b, d, e0, ks2, ct2, sm2, le2, gr2, hrep2, hP1, hK1, hD1⟩ := hB
  subst e0
  rw [ht] at hP1
  have hK1 := va_K.moved hvm.symm hK1
  obtain ⟨hP, hD⟩ := va_join (wr := (wX a k (nI 0) (nI 1) (nI TB0.1) (fun _ => 0) (fun _ => 0) sl ks ct sm le gr)) (w1 := (wM b d 0 (nI 0) (nI 1) (nI TB0.1) ks2 ct2 sm2 le2 gr2 (fun _ => 0) (fun _ => 0))) hP hD [9] [0, 1, 2, 3, 4, 5, 6, 7, 8] rfl rfl (by decide) (by decide) hk1 hFc hP1 hD1
  have hK := (hK.sub (tys' := (kX k)) [0, 1, 2, 3, 4, 5, 6, 7] rfl).app hK1
  generalize H1 = H at hP hS ⊢
  have hP : va_P (dC, dI) classes ((wX a k (nI 0) (nI 1) (nI TB0.1) (fun _ => 0) (fun _ => 0) sl ks ct sm le gr) ++ (wM b d 0 (nI 0) (nI 1) (nI TB0.1) ks2 ct2 sm2 le2 gr2 (fun _ => 0) (fun _ => 0))) H := hP
  have hD : va_D (fun q : Nat => s.heap.size ≤ q) ((wX a k (nI 0) (nI 1) (nI TB0.1) (fun _ => 0) (fun _ => 0) sl ks ct sm le gr) ++ (wM b d 0 (nI 0) (nI 1) (nI TB0.1) ks2 ct2 sm2 le2 gr2 (fun _ => 0) (fun _ => 0))) := hD
  have hK : va_K (dC, dI) classes (kX k ++ kM d) s := hK
  refine W.cs (cells' := 17) (slots' := 67054) rfl rfl ?_
  refine lv_astore_n (lv' := [(2, .ref (b 0)), (1, .ref (a 0)), (0, .ref sb)]) hx hb dL_law_15 rfl hl (by decide) rfl (fun ls hl => ?_)
  refine lv_iconst (v := 1) hx hb dL_law_16 (by decide) ?_
  refine va_newa (atype := .long) (ty := .long) (N' := 1) (a0 := (1, .inr (.inl (fun _ => 0)))) hx hb (hta _ w54) rfl hK hP hD hS hA (fun _ => rfl) (by decide) (by decide) (by decide) (Nat.le_of_ble_eq_true rfl) (Nat.le_of_ble_eq_true rfl) dL_law_17 (fun a9 k9 H hK hP hD hS => ?_)
  have hP : va_P (dC, dI) classes ((wX a k (nI 0) (nI 1) (nI TB0.1) (fun _ => 0) (fun _ => 0) sl ks ct sm le gr) ++ (wM b d 0 (nI 0) (nI 1) (nI TB0.1) ks2 ct2 sm2 le2 gr2 (fun _ => 0) (fun _ => 0)) ++ [(a9, .inl (k9, 1, .inr (.inl (fun _ => 0))))]) H := hP
  have hD : va_D (fun q : Nat => s.heap.size ≤ q) ((wX a k (nI 0) (nI 1) (nI TB0.1) (fun _ => 0) (fun _ => 0) sl ks ct sm le gr) ++ (wM b d 0 (nI 0) (nI 1) (nI TB0.1) ks2 ct2 sm2 le2 gr2 (fun _ => 0) (fun _ => 0)) ++ [(a9, .inl (k9, 1, .inr (.inl (fun _ => 0))))]) := hD
  have hK : va_K (dC, dI) classes (kX k ++ kM d ++ [(k9, .long)]) s := hK
  refine W.cs (cells' := 18 + 0) (slots' := 67055 + 6 * 0) rfl rfl ?_
  refine lv_astore_n (lv' := [(3, .ref a9), (2, .ref (b 0)), (1, .ref (a 0)), (0, .ref sb)]) hx hb dL_law_19 rfl hl (by decide) rfl (fun ls hl => ?_)
  refine lv_iconst (v := 0) hx hb dL_law_20 (by decide) ?_
  refine gi_as (y := nI (4 * 0)) nI_0.symm ?_
  refine lv_istore (lv' := [(4, .int (nI (4 * 0))), (3, .ref a9), (2, .ref (b 0)), (1, .ref (a 0)), (0, .ref sb)]) hx hb dL_law_21 hl (by decide) rfl (fun ls hl => ?_)
  exact law_loop hnt hL C0 hT hK (L + 1) 0 (Nat.zero_le L) (by omega) 0 1 (fun _ => 0) (fun _ => 0) TB0 0 (fun _ => 0) H _ ls ⟨σ, sl, ks, ct, sm, le, gr, ks2, ct2, sm2, le2, gr2, hσ, hrep, hrep2, hP, hD, hS⟩ (lv_sub hl [4, 3, 2, 1, 0] rfl)
