set_option maxHeartbeats 4000000 in
set_option maxRecDepth 100000 in
/-- the law at spread -/
theorem lc_spread {p : Program} {l : Launch} {e : Env} {s : State} {m : MethodId} {below : List Frame} {meth : Method} {c : Code} {dC : Nat → ClassId} {dI : Nat → Nat → Nat} {sb L : Nat} {xs : Nat → Int32} {a : Nat → Nat} {k : Nat → ClassId} {b : Nat → Nat} {d : Nat → ClassId} {a9 : Nat} {k9 : ClassId} (hnt : l.stackTraces = false) (hL : L ≤ 2048) (C0 : lw_At p s m meth c sb L xs) (hT : thrE (fun q : Nat => s.heap.size ≤ q) s s.heap) (hK : va_K (dC, dI) classes (kX k ++ kM d ++ [(k9, .long)]) s) (q : Nat) (hq : 4 * q + 4 ≤ L) (nxt : (∀ (wn mn : Nat) (fk : Nat → Int32) (fa : Nat → Int64) (T : TB) (cd : Int32) (ov : Nat → Int64) (H : Heap) (locs : List Loc) (ls : Array Slot), lwI dC dI a k b d a9 k9 s H locs wn mn fk fa T cd ov → lv_has ls 8 [(0, .ref sb), (1, .ref (a 0)), (2, .ref (b 0)), (3, .ref a9), (4, .int (nI (4 * q)))] → W p l e room_1 s m #[Value.ref sb] below meth c H locs (18 + q + 1) (67055 + 6 * q + 6) (lw_Z below #[Value.ref sb] s) (F0 m 731 ls []))) (wn mn : Nat) (fk : Nat → Int32) (fa : Nat → Int64) (T : TB) (cd : Int32) (ov : Nat → Int64) (H : Heap) (locs : List Loc) (ls : Array Slot) (hI : lwI dC dI a k b d a9 k9 s H locs wn mn fk fa T cd ov) (hl : lv_has ls 8 [(0, .ref sb), (1, .ref (a 0)), (2, .ref (b 0)), (3, .ref a9), (4, .int (nI (4 * q)))]) : W p l e room_1 s m #[Value.ref sb] below meth c H locs (18 + q) (67055 + 6 * q) (lw_Z below #[Value.ref sb] s) (F0 m 367 ls []) := by
  obtain ⟨hx, hb, hr, hml, hown, hts, hX, hbl, hlocks, hgv⟩ := C0
  have hta : ∀ w ∈ wAll, w.before #[Value.ref sb] s = true := fun w h => hts w (wA_tbl h)
  have hown : s.vm.findClass "GroupRowsLaw" = some m.cls := hown
  have hA : ∀ q : Nat, s.heap.size ≤ q → (fun q : Nat => s.heap.size ≤ q) q := fun _ h => h
  have hbA : ¬ (fun q : Nat => s.heap.size ≤ q) sb := Nat.not_le.mpr hbl
  obtain ⟨σ, sl, ks, ct, sm, le, gr, ks2, ct2, sm2, le2, gr2, hσ, hrep, hrep2, hP, hD, hS⟩ := hI
  have hP : va_P (dC, dI) classes ((wX a k (nI wn) (nI mn) (nI T.1) fk fa sl ks ct sm le gr) ++ (wM b d cd (nI wn) (nI mn) (nI T.1) ks2 ct2 sm2 le2 gr2 fk fa) ++ [(a9, .inl (k9, 1, .inr (.inl ov)))]) H := hP
  have hD : va_D (fun q : Nat => s.heap.size ≤ q) ((wX a k (nI wn) (nI mn) (nI T.1) fk fa sl ks ct sm le gr) ++ (wM b d cd (nI wn) (nI mn) (nI T.1) ks2 ct2 sm2 le2 gr2 fk fa) ++ [(a9, .inl (k9, 1, .inr (.inl ov)))]) := hD
  refine lv_aload_n hx hb dL_law_367 rfl (lv_at hl 1 rfl) ?_
  refine lv_aload_n hx hb dL_law_368 rfl (lv_at hl 0 rfl) ?_
  refine lv_iload hx hb dL_law_369 (lv_at hl 4 rfl) ?_
  refine lv_iconst (v := 1) hx hb dL_law_371 (by decide) ?_
  refine lv_iadd hx hb dL_law_372 ?_
  refine gi_as (y := nI ((4 * q) + 1)) (nI_1 _) ?_
  refine va_sld hx hb hX hbl hbA hS (vp_in_nI (n := ((4 * q) + 1)) (by omega) (by omega)) dL_law_373 ?_
  refine gi_as (y := xs ((4 * q) + 1)) (by rw [nI_clamp (by omega)]) ?_
  refine lv_aload_n hx hb dL_law_374 rfl (lv_at hl 0 rfl) ?_
  refine lv_iload hx hb dL_law_375 (lv_at hl 4 rfl) ?_
  refine lv_iconst (v := 2) hx hb dL_law_377 (by decide) ?_
  refine lv_iadd hx hb dL_law_378 ?_
  refine gi_as (y := nI ((4 * q) + 2)) (nI_add _ 2) ?_
  refine va_sld hx hb hX hbl hbA hS (vp_in_nI (n := ((4 * q) + 2)) (by omega) (by omega)) dL_law_379 ?_
  refine gi_as (y := xs ((4 * q) + 2)) (by rw [nI_clamp (by omega)]) ?_
  refine lv_aload_n hx hb dL_law_380 rfl (lv_at hl 0 rfl) ?_
  refine lv_iload hx hb dL_law_381 (lv_at hl 4 rfl) ?_
  refine lv_iconst (v := 3) hx hb dL_law_383 (by decide) ?_
  refine lv_iadd hx hb dL_law_384 ?_
  refine gi_as (y := nI ((4 * q) + 3)) (nI_add _ 3) ?_
  refine va_sld hx hb hX hbl hbA hS (vp_in_nI (n := ((4 * q) + 3)) (by omega) (by omega)) dL_law_385 ?_
  refine gi_as (y := xs ((4 * q) + 3)) (by rw [nI_clamp (by omega)]) ?_
  refine lv_aload_n hx hb dL_law_386 rfl (lv_at hl 3 rfl) ?_
  have hPc := hP.sub (ws' := ((wX a k (nI wn) (nI mn) (nI T.1) fk fa sl ks ct sm le gr) ++ [(a9, .inl (k9, 1, .inr (.inl ov)))])) [0, 1, 2, 3, 4, 5, 6, 7, 8, 17] rfl
  have hDc := hD.sub (ws' := ((wX a k (nI wn) (nI mn) (nI T.1) fk fa sl ks ct sm le gr) ++ [(a9, .inl (k9, 1, .inr (.inl ov)))])) [0, 1, 2, 3, 4, 5, 6, 7, 8, 17] (by decide) rfl
  have hKc := hK.sub (tys' := ((kX k) ++ [(k9, .long)])) [0, 1, 2, 3, 4, 5, 6, 7, 15] rfl
  have hFc := va_free (wc := ((wX a k (nI wn) (nI mn) (nI T.1) fk fa sl ks ct sm le gr) ++ [(a9, .inl (k9, 1, .inr (.inl ov)))])) hD hS hA [0, 1, 2, 3, 4, 5, 6, 7, 8, 17] rfl
  refine va_calli (vx_runSW (As := [.ref (a 0), .int (xs ((4 * q) + 1)), .int (xs ((4 * q) + 2)), .int (xs ((4 * q) + 3)), .ref a9]) (rest := []) ⟨hx, hb, hml, hown, hta⟩ (c_Lspread l hnt dC dI a k wn mn fk fa T σ sl ks ct sm le gr hσ hrep a9 k9 ov (xs ((4 * q) + 1)) (xs ((4 * q) + 2)) (xs ((4 * q) + 3)) H.size) (vx_cwSW 5 hta (gSW w217 w218 w0 w219) rfl rfl rfl (by decide +kernel) ⟨Nat.le_of_ble_eq_true rfl, Nat.le_of_ble_eq_true rfl⟩) ⟨gb_X, fun U hU hW => ⟨rfl, by rw [hU], by rw [hU]; exact hPc, va_K.moved hW.alike hKc, hDc.weaken (fun _ _ _ _ => trivial), by rw [hU]; exact ((thrE.warm hW hT).kept hS.2.1).narrow hFc⟩⟩ rfl rfl hl.1 rfl (lv_room (Nat.le_of_ble_eq_true rfl)) dL_law_387 ⟨by show 18 + q + 1 ≤ 1056; omega, by show 67055 + 6 * q + 6 ≤ 75331; omega⟩) hS (fun q _ h => hFc q h) hFc (fun r_9 u t H1 locs ht hvm hw hB hz1 hk1 hS => ?_)
  by_cases hLg : (0 ≤ (xs ((4 * q) + 2)) ∧ (xs ((4 * q) + 2)) < nI wn) ∧ 1 ≤ (xs ((4 * q) + 1)) ∧ (xs ((4 * q) + 1)) ≤ 5000
  · skip
    rw [if_pos hLg] at hw
    subst hw
    obtain ⟨σ1, sl1, ks1, ct1, sm1, le1, gr1, ⟨hσ1, hr1⟩, hP1, hK1, hD1⟩ := hB.1 hLg
    rw [ht] at hP1
    obtain ⟨hP, hD⟩ := va_join (wr := (wM b d cd (nI wn) (nI mn) (nI T.1) ks2 ct2 sm2 le2 gr2 fk fa)) (w1 := ((wX a k (nI wn) (nI mn) (nI (sprT wn mn (xs ((4 * q) + 2)).toNatClampNeg (xs ((4 * q) + 3)) (xs ((4 * q) + 1)).toNatClampNeg 0 fk fa T).2.2.2.1) ((sprT wn mn (xs ((4 * q) + 2)).toNatClampNeg (xs ((4 * q) + 3)) (xs ((4 * q) + 1)).toNatClampNeg 0 fk fa T).2.1) ((sprT wn mn (xs ((4 * q) + 2)).toNatClampNeg (xs ((4 * q) + 3)) (xs ((4 * q) + 1)).toNatClampNeg 0 fk fa T).2.2.1) sl1 ks1 ct1 sm1 le1 gr1) ++ [(a9, .inl (k9, 1, .inr (.inl (vp_updL ov 0 (nI (sprT wn mn (xs ((4 * q) + 2)).toNatClampNeg (xs ((4 * q) + 3)) (xs ((4 * q) + 1)).toNatClampNeg 0 fk fa T).1).toInt64))))])) hP hD [0, 1, 2, 3, 4, 5, 6, 7, 8, 17] [9, 10, 11, 12, 13, 14, 15, 16] rfl rfl (by decide) (by decide) hk1 hFc hP1 hD1
    have hP := hP.sub (ws' := ((wX a k (nI wn) (nI mn) (nI (sprT wn mn (xs ((4 * q) + 2)).toNatClampNeg (xs ((4 * q) + 3)) (xs ((4 * q) + 1)).toNatClampNeg 0 fk fa T).2.2.2.1) ((sprT wn mn (xs ((4 * q) + 2)).toNatClampNeg (xs ((4 * q) + 3)) (xs ((4 * q) + 1)).toNatClampNeg 0 fk fa T).2.1) ((sprT wn mn (xs ((4 * q) + 2)).toNatClampNeg (xs ((4 * q) + 3)) (xs ((4 * q) + 1)).toNatClampNeg 0 fk fa T).2.2.1) sl1 ks1 ct1 sm1 le1 gr1) ++ (wM b d cd (nI wn) (nI mn) (nI T.1) ks2 ct2 sm2 le2 gr2 fk fa) ++ [(a9, .inl (k9, 1, .inr (.inl (vp_updL ov 0 (nI (sprT wn mn (xs ((4 * q) + 2)).toNatClampNeg (xs ((4 * q) + 3)) (xs ((4 * q) + 1)).toNatClampNeg 0 fk fa T).1).toInt64))))])) [8, 9, 10, 11, 12, 13, 14, 15, 16, 0, 1, 2, 3, 4, 5, 6, 7, 17] rfl
    have hD := hD.sub (ws' := ((wX a k (nI wn) (nI mn) (nI (sprT wn mn (xs ((4 * q) + 2)).toNatClampNeg (xs ((4 * q) + 3)) (xs ((4 * q) + 1)).toNatClampNeg 0 fk fa T).2.2.2.1) ((sprT wn mn (xs ((4 * q) + 2)).toNatClampNeg (xs ((4 * q) + 3)) (xs ((4 * q) + 1)).toNatClampNeg 0 fk fa T).2.1) ((sprT wn mn (xs ((4 * q) + 2)).toNatClampNeg (xs ((4 * q) + 3)) (xs ((4 * q) + 1)).toNatClampNeg 0 fk fa T).2.2.1) sl1 ks1 ct1 sm1 le1 gr1) ++ (wM b d cd (nI wn) (nI mn) (nI T.1) ks2 ct2 sm2 le2 gr2 fk fa) ++ [(a9, .inl (k9, 1, .inr (.inl (vp_updL ov 0 (nI (sprT wn mn (xs ((4 * q) + 2)).toNatClampNeg (xs ((4 * q) + 3)) (xs ((4 * q) + 1)).toNatClampNeg 0 fk fa T).1).toInt64))))])) [8, 9, 10, 11, 12, 13, 14, 15, 16, 0, 1, 2, 3, 4, 5, 6, 7, 17] (by decide) rfl
    have hP : va_P (dC, dI) classes ((wX a k (nI wn) (nI mn) (nI (sprT wn mn (xs ((4 * q) + 2)).toNatClampNeg (xs ((4 * q) + 3)) (xs ((4 * q) + 1)).toNatClampNeg 0 fk fa T).2.2.2.1) ((sprT wn mn (xs ((4 * q) + 2)).toNatClampNeg (xs ((4 * q) + 3)) (xs ((4 * q) + 1)).toNatClampNeg 0 fk fa T).2.1) ((sprT wn mn (xs ((4 * q) + 2)).toNatClampNeg (xs ((4 * q) + 3)) (xs ((4 * q) + 1)).toNatClampNeg 0 fk fa T).2.2.1) sl1 ks1 ct1 sm1 le1 gr1) ++ (wM b d cd (nI wn) (nI mn) (nI T.1) ks2 ct2 sm2 le2 gr2 fk fa) ++ [(a9, .inl (k9, 1, .inr (.inl (vp_updL ov 0 (nI (sprT wn mn (xs ((4 * q) + 2)).toNatClampNeg (xs ((4 * q) + 3)) (xs ((4 * q) + 1)).toNatClampNeg 0 fk fa T).1).toInt64))))]) H1 := hP
    have hD : va_D (fun q : Nat => s.heap.size ≤ q) ((wX a k (nI wn) (nI mn) (nI (sprT wn mn (xs ((4 * q) + 2)).toNatClampNeg (xs ((4 * q) + 3)) (xs ((4 * q) + 1)).toNatClampNeg 0 fk fa T).2.2.2.1) ((sprT wn mn (xs ((4 * q) + 2)).toNatClampNeg (xs ((4 * q) + 3)) (xs ((4 * q) + 1)).toNatClampNeg 0 fk fa T).2.1) ((sprT wn mn (xs ((4 * q) + 2)).toNatClampNeg (xs ((4 * q) + 3)) (xs ((4 * q) + 1)).toNatClampNeg 0 fk fa T).2.2.1) sl1 ks1 ct1 sm1 le1 gr1) ++ (wM b d cd (nI wn) (nI mn) (nI T.1) ks2 ct2 sm2 le2 gr2 fk fa) ++ [(a9, .inl (k9, 1, .inr (.inl (vp_updL ov 0 (nI (sprT wn mn (xs ((4 * q) + 2)).toNatClampNeg (xs ((4 * q) + 3)) (xs ((4 * q) + 1)).toNatClampNeg 0 fk fa T).1).toInt64))))]) := hD
    generalize H1 = H at hP hS ⊢
    have hP : va_P (dC, dI) classes ((wX a k (nI wn) (nI mn) (nI (sprT wn mn (xs ((4 * q) + 2)).toNatClampNeg (xs ((4 * q) + 3)) (xs ((4 * q) + 1)).toNatClampNeg 0 fk fa T).2.2.2.1) ((sprT wn mn (xs ((4 * q) + 2)).toNatClampNeg (xs ((4 * q) + 3)) (xs ((4 * q) + 1)).toNatClampNeg 0 fk fa T).2.1) ((sprT wn mn (xs ((4 * q) + 2)).toNatClampNeg (xs ((4 * q) + 3)) (xs ((4 * q) + 1)).toNatClampNeg 0 fk fa T).2.2.1) sl1 ks1 ct1 sm1 le1 gr1) ++ (wM b d cd (nI wn) (nI mn) (nI T.1) ks2 ct2 sm2 le2 gr2 fk fa) ++ [(a9, .inl (k9, 1, .inr (.inl (vp_updL ov 0 (nI (sprT wn mn (xs ((4 * q) + 2)).toNatClampNeg (xs ((4 * q) + 3)) (xs ((4 * q) + 1)).toNatClampNeg 0 fk fa T).1).toInt64))))]) H := hP
    have hD : va_D (fun q : Nat => s.heap.size ≤ q) ((wX a k (nI wn) (nI mn) (nI (sprT wn mn (xs ((4 * q) + 2)).toNatClampNeg (xs ((4 * q) + 3)) (xs ((4 * q) + 1)).toNatClampNeg 0 fk fa T).2.2.2.1) ((sprT wn mn (xs ((4 * q) + 2)).toNatClampNeg (xs ((4 * q) + 3)) (xs ((4 * q) + 1)).toNatClampNeg 0 fk fa T).2.1) ((sprT wn mn (xs ((4 * q) + 2)).toNatClampNeg (xs ((4 * q) + 3)) (xs ((4 * q) + 1)).toNatClampNeg 0 fk fa T).2.2.1) sl1 ks1 ct1 sm1 le1 gr1) ++ (wM b d cd (nI wn) (nI mn) (nI T.1) ks2 ct2 sm2 le2 gr2 fk fa) ++ [(a9, .inl (k9, 1, .inr (.inl (vp_updL ov 0 (nI (sprT wn mn (xs ((4 * q) + 2)).toNatClampNeg (xs ((4 * q) + 3)) (xs ((4 * q) + 1)).toNatClampNeg 0 fk fa T).1).toInt64))))]) := hD
    show W p l e room_1 s m #[Value.ref sb] below meth c H locs (18 + q + 1) (67055 + 6 * q + 6) (lw_Z below #[Value.ref sb] s) (F0 m 390 ls [.int 0])
    refine lv_istore (lv' := [(5, .int 0), (0, .ref sb), (1, .ref (a 0)), (2, .ref (b 0)), (3, .ref a9), (4, .int (nI (4 * q)))]) hx hb dL_law_390 hl (by decide) rfl (fun ls hl => ?_)
    refine lv_aload_n hx hb dL_law_392 rfl (lv_at hl 3 rfl) ?_
    refine lv_aload_n hx hb dL_law_393 rfl (lv_at hl 1 rfl) ?_
    refine lv_iload hx hb dL_law_394 (lv_at hl 5 rfl) ?_
    refine lv_iconst (v := 1) hx hb dL_law_396 (by decide) ?_
    refine lv_iadd hx hb dL_law_397 ?_
    refine gi_as (y := nI ((4 * q) + 1)) (nI_1 _) ?_
    refine va_sld hx hb hX hbl hbA hS (vp_in_nI (n := ((4 * q) + 1)) (by omega) (by omega)) dL_law_398 ?_
    refine gi_as (y := xs ((4 * q) + 1)) (by rw [nI_clamp (by omega)]) ?_
    refine lv_aload_n hx hb dL_law_399 rfl (lv_at hl 1 rfl) ?_
    refine lv_iload hx hb dL_law_400 (lv_at hl 5 rfl) ?_
    refine lv_iconst (v := 2) hx hb dL_law_402 (by decide) ?_
    refine lv_iadd hx hb dL_law_403 ?_
    refine gi_as (y := nI ((4 * q) + 2)) (nI_add _ 2) ?_
    refine va_sld hx hb hX hbl hbA hS (vp_in_nI (n := ((4 * q) + 2)) (by omega) (by omega)) dL_law_404 ?_
    refine gi_as (y := xs ((4 * q) + 2)) (by rw [nI_clamp (by omega)]) ?_
    refine lv_aload_n hx hb dL_law_405 rfl (lv_at hl 1 rfl) ?_
    refine lv_iload hx hb dL_law_406 (lv_at hl 5 rfl) ?_
    refine lv_iconst (v := 3) hx hb dL_law_408 (by decide) ?_
    refine lv_iadd hx hb dL_law_409 ?_
    refine gi_as (y := nI ((4 * q) + 3)) (nI_add _ 3) ?_
    refine va_sld hx hb hX hbl hbA hS (vp_in_nI (n := ((4 * q) + 3)) (by omega) (by omega)) dL_law_410 ?_
    refine gi_as (y := xs ((4 * q) + 3)) (by rw [nI_clamp (by omega)]) ?_
    have hPc := hP.sub (ws' := (wM b d cd (nI wn) (nI mn) (nI T.1) ks2 ct2 sm2 le2 gr2 fk fa)) [9, 10, 11, 12, 13, 14, 15, 16] rfl
    have hDc := hD.sub (ws' := (wM b d cd (nI wn) (nI mn) (nI T.1) ks2 ct2 sm2 le2 gr2 fk fa)) [9, 10, 11, 12, 13, 14, 15, 16] (by decide) rfl
    have hKc := hK.sub (tys' := (kM d)) [8, 9, 10, 11, 12, 13, 14] rfl
    have hFc := va_free (wc := (wM b d cd (nI wn) (nI mn) (nI T.1) ks2 ct2 sm2 le2 gr2 fk fa)) hD hS hA [9, 10, 11, 12, 13, 14, 15, 16] rfl
    refine va_calli (va_runV (As := [.int (xs ((4 * q) + 1)), .int (xs ((4 * q) + 2)), .int (xs ((4 * q) + 3))]) (rest := []) ⟨hx, hb, hml, hown, hta⟩ (c_Mspread l dC dI b d cd wn mn fk fa T ks2 ct2 sm2 le2 gr2 hrep2 (xs ((4 * q) + 1)) (xs ((4 * q) + 2)) (xs ((4 * q) + 3)) H.size) (cwV 3 hta (gV w349 w350 w351 w2 w352) rfl rfl rfl (by decide +kernel) ⟨Nat.le_of_ble_eq_true rfl, Nat.le_of_ble_eq_true rfl⟩) ⟨gb_W, va_recv hKc hPc (ci := 1) (q0 := 0) rfl rfl, fun U hU hW => ⟨rfl, by rw [hU], by rw [hU]; exact hPc, va_K.moved hW.alike hKc, hDc.weaken (fun _ _ _ _ => trivial)⟩⟩ rfl rfl hl.1 rfl (lv_room (Nat.le_of_ble_eq_true rfl)) dL_law_411 ⟨by show 18 + q + 1 + 0 ≤ 1056; omega, by show 67055 + 6 * q + 6 + 0 ≤ 75331; omega⟩) hS (fun q _ h => hFc q h) hFc (fun r_8 u2 t H1 locs ht hvm hw2 hB2 hz1 hk1 hS => ?_)
    rw [if_pos hLg] at hw2
    subst hw2
    obtain ⟨ks3, ct3, sm3, le3, gr3, hr3, hP1, hK1, hD1⟩ := hB2.1 hLg
    rw [ht] at hP1
    obtain ⟨hP, hD⟩ := va_join (wr := ((wX a k (nI wn) (nI mn) (nI (sprT wn mn (xs ((4 * q) + 2)).toNatClampNeg (xs ((4 * q) + 3)) (xs ((4 * q) + 1)).toNatClampNeg 0 fk fa T).2.2.2.1) ((sprT wn mn (xs ((4 * q) + 2)).toNatClampNeg (xs ((4 * q) + 3)) (xs ((4 * q) + 1)).toNatClampNeg 0 fk fa T).2.1) ((sprT wn mn (xs ((4 * q) + 2)).toNatClampNeg (xs ((4 * q) + 3)) (xs ((4 * q) + 1)).toNatClampNeg 0 fk fa T).2.2.1) sl1 ks1 ct1 sm1 le1 gr1) ++ [(a9, .inl (k9, 1, .inr (.inl (vp_updL ov 0 (nI (sprT wn mn (xs ((4 * q) + 2)).toNatClampNeg (xs ((4 * q) + 3)) (xs ((4 * q) + 1)).toNatClampNeg 0 fk fa T).1).toInt64))))])) (w1 := (wM b d 0 (nI wn) (nI mn) (nI (sprT wn mn (xs ((4 * q) + 2)).toNatClampNeg (xs ((4 * q) + 3)) (xs ((4 * q) + 1)).toNatClampNeg 0 fk fa T).2.2.2.1) ks3 ct3 sm3 le3 gr3 ((sprT wn mn (xs ((4 * q) + 2)).toNatClampNeg (xs ((4 * q) + 3)) (xs ((4 * q) + 1)).toNatClampNeg 0 fk fa T).2.1) ((sprT wn mn (xs ((4 * q) + 2)).toNatClampNeg (xs ((4 * q) + 3)) (xs ((4 * q) + 1)).toNatClampNeg 0 fk fa T).2.2.1))) hP hD [9, 10, 11, 12, 13, 14, 15, 16] [0, 1, 2, 3, 4, 5, 6, 7, 8, 17] rfl rfl (by decide) (by decide) hk1 hFc hP1 hD1
    have hP := hP.sub (ws' := ((wX a k (nI wn) (nI mn) (nI (sprT wn mn (xs ((4 * q) + 2)).toNatClampNeg (xs ((4 * q) + 3)) (xs ((4 * q) + 1)).toNatClampNeg 0 fk fa T).2.2.2.1) ((sprT wn mn (xs ((4 * q) + 2)).toNatClampNeg (xs ((4 * q) + 3)) (xs ((4 * q) + 1)).toNatClampNeg 0 fk fa T).2.1) ((sprT wn mn (xs ((4 * q) + 2)).toNatClampNeg (xs ((4 * q) + 3)) (xs ((4 * q) + 1)).toNatClampNeg 0 fk fa T).2.2.1) sl1 ks1 ct1 sm1 le1 gr1) ++ (wM b d 0 (nI wn) (nI mn) (nI (sprT wn mn (xs ((4 * q) + 2)).toNatClampNeg (xs ((4 * q) + 3)) (xs ((4 * q) + 1)).toNatClampNeg 0 fk fa T).2.2.2.1) ks3 ct3 sm3 le3 gr3 ((sprT wn mn (xs ((4 * q) + 2)).toNatClampNeg (xs ((4 * q) + 3)) (xs ((4 * q) + 1)).toNatClampNeg 0 fk fa T).2.1) ((sprT wn mn (xs ((4 * q) + 2)).toNatClampNeg (xs ((4 * q) + 3)) (xs ((4 * q) + 1)).toNatClampNeg 0 fk fa T).2.2.1)) ++ [(a9, .inl (k9, 1, .inr (.inl (vp_updL ov 0 (nI (sprT wn mn (xs ((4 * q) + 2)).toNatClampNeg (xs ((4 * q) + 3)) (xs ((4 * q) + 1)).toNatClampNeg 0 fk fa T).1).toInt64))))])) [0, 1, 2, 3, 4, 5, 6, 7, 8, 10, 11, 12, 13, 14, 15, 16, 17, 9] rfl
    have hD := hD.sub (ws' := ((wX a k (nI wn) (nI mn) (nI (sprT wn mn (xs ((4 * q) + 2)).toNatClampNeg (xs ((4 * q) + 3)) (xs ((4 * q) + 1)).toNatClampNeg 0 fk fa T).2.2.2.1) ((sprT wn mn (xs ((4 * q) + 2)).toNatClampNeg (xs ((4 * q) + 3)) (xs ((4 * q) + 1)).toNatClampNeg 0 fk fa T).2.1) ((sprT wn mn (xs ((4 * q) + 2)).toNatClampNeg (xs ((4 * q) + 3)) (xs ((4 * q) + 1)).toNatClampNeg 0 fk fa T).2.2.1) sl1 ks1 ct1 sm1 le1 gr1) ++ (wM b d 0 (nI wn) (nI mn) (nI (sprT wn mn (xs ((4 * q) + 2)).toNatClampNeg (xs ((4 * q) + 3)) (xs ((4 * q) + 1)).toNatClampNeg 0 fk fa T).2.2.2.1) ks3 ct3 sm3 le3 gr3 ((sprT wn mn (xs ((4 * q) + 2)).toNatClampNeg (xs ((4 * q) + 3)) (xs ((4 * q) + 1)).toNatClampNeg 0 fk fa T).2.1) ((sprT wn mn (xs ((4 * q) + 2)).toNatClampNeg (xs ((4 * q) + 3)) (xs ((4 * q) + 1)).toNatClampNeg 0 fk fa T).2.2.1)) ++ [(a9, .inl (k9, 1, .inr (.inl (vp_updL ov 0 (nI (sprT wn mn (xs ((4 * q) + 2)).toNatClampNeg (xs ((4 * q) + 3)) (xs ((4 * q) + 1)).toNatClampNeg 0 fk fa T).1).toInt64))))])) [0, 1, 2, 3, 4, 5, 6, 7, 8, 10, 11, 12, 13, 14, 15, 16, 17, 9] (by decide) rfl
    have hP : va_P (dC, dI) classes ((wX a k (nI wn) (nI mn) (nI (sprT wn mn (xs ((4 * q) + 2)).toNatClampNeg (xs ((4 * q) + 3)) (xs ((4 * q) + 1)).toNatClampNeg 0 fk fa T).2.2.2.1) ((sprT wn mn (xs ((4 * q) + 2)).toNatClampNeg (xs ((4 * q) + 3)) (xs ((4 * q) + 1)).toNatClampNeg 0 fk fa T).2.1) ((sprT wn mn (xs ((4 * q) + 2)).toNatClampNeg (xs ((4 * q) + 3)) (xs ((4 * q) + 1)).toNatClampNeg 0 fk fa T).2.2.1) sl1 ks1 ct1 sm1 le1 gr1) ++ (wM b d 0 (nI wn) (nI mn) (nI (sprT wn mn (xs ((4 * q) + 2)).toNatClampNeg (xs ((4 * q) + 3)) (xs ((4 * q) + 1)).toNatClampNeg 0 fk fa T).2.2.2.1) ks3 ct3 sm3 le3 gr3 ((sprT wn mn (xs ((4 * q) + 2)).toNatClampNeg (xs ((4 * q) + 3)) (xs ((4 * q) + 1)).toNatClampNeg 0 fk fa T).2.1) ((sprT wn mn (xs ((4 * q) + 2)).toNatClampNeg (xs ((4 * q) + 3)) (xs ((4 * q) + 1)).toNatClampNeg 0 fk fa T).2.2.1)) ++ [(a9, .inl (k9, 1, .inr (.inl (vp_updL ov 0 (nI (sprT wn mn (xs ((4 * q) + 2)).toNatClampNeg (xs ((4 * q) + 3)) (xs ((4 * q) + 1)).toNatClampNeg 0 fk fa T).1).toInt64))))]) H1 := hP
    have hD : va_D (fun q : Nat => s.heap.size ≤ q) ((wX a k (nI wn) (nI mn) (nI (sprT wn mn (xs ((4 * q) + 2)).toNatClampNeg (xs ((4 * q) + 3)) (xs ((4 * q) + 1)).toNatClampNeg 0 fk fa T).2.2.2.1) ((sprT wn mn (xs ((4 * q) + 2)).toNatClampNeg (xs ((4 * q) + 3)) (xs ((4 * q) + 1)).toNatClampNeg 0 fk fa T).2.1) ((sprT wn mn (xs ((4 * q) + 2)).toNatClampNeg (xs ((4 * q) + 3)) (xs ((4 * q) + 1)).toNatClampNeg 0 fk fa T).2.2.1) sl1 ks1 ct1 sm1 le1 gr1) ++ (wM b d 0 (nI wn) (nI mn) (nI (sprT wn mn (xs ((4 * q) + 2)).toNatClampNeg (xs ((4 * q) + 3)) (xs ((4 * q) + 1)).toNatClampNeg 0 fk fa T).2.2.2.1) ks3 ct3 sm3 le3 gr3 ((sprT wn mn (xs ((4 * q) + 2)).toNatClampNeg (xs ((4 * q) + 3)) (xs ((4 * q) + 1)).toNatClampNeg 0 fk fa T).2.1) ((sprT wn mn (xs ((4 * q) + 2)).toNatClampNeg (xs ((4 * q) + 3)) (xs ((4 * q) + 1)).toNatClampNeg 0 fk fa T).2.2.1)) ++ [(a9, .inl (k9, 1, .inr (.inl (vp_updL ov 0 (nI (sprT wn mn (xs ((4 * q) + 2)).toNatClampNeg (xs ((4 * q) + 3)) (xs ((4 * q) + 1)).toNatClampNeg 0 fk fa T).1).toInt64))))]) := hD
    generalize H1 = H at hP hS ⊢
    have hP : va_P (dC, dI) classes ((wX a k (nI wn) (nI mn) (nI (sprT wn mn (xs ((4 * q) + 2)).toNatClampNeg (xs ((4 * q) + 3)) (xs ((4 * q) + 1)).toNatClampNeg 0 fk fa T).2.2.2.1) ((sprT wn mn (xs ((4 * q) + 2)).toNatClampNeg (xs ((4 * q) + 3)) (xs ((4 * q) + 1)).toNatClampNeg 0 fk fa T).2.1) ((sprT wn mn (xs ((4 * q) + 2)).toNatClampNeg (xs ((4 * q) + 3)) (xs ((4 * q) + 1)).toNatClampNeg 0 fk fa T).2.2.1) sl1 ks1 ct1 sm1 le1 gr1) ++ (wM b d 0 (nI wn) (nI mn) (nI (sprT wn mn (xs ((4 * q) + 2)).toNatClampNeg (xs ((4 * q) + 3)) (xs ((4 * q) + 1)).toNatClampNeg 0 fk fa T).2.2.2.1) ks3 ct3 sm3 le3 gr3 ((sprT wn mn (xs ((4 * q) + 2)).toNatClampNeg (xs ((4 * q) + 3)) (xs ((4 * q) + 1)).toNatClampNeg 0 fk fa T).2.1) ((sprT wn mn (xs ((4 * q) + 2)).toNatClampNeg (xs ((4 * q) + 3)) (xs ((4 * q) + 1)).toNatClampNeg 0 fk fa T).2.2.1)) ++ [(a9, .inl (k9, 1, .inr (.inl (vp_updL ov 0 (nI (sprT wn mn (xs ((4 * q) + 2)).toNatClampNeg (xs ((4 * q) + 3)) (xs ((4 * q) + 1)).toNatClampNeg 0 fk fa T).1).toInt64))))]) H := hP
    have hD : va_D (fun q : Nat => s.heap.size ≤ q) ((wX a k (nI wn) (nI mn) (nI (sprT wn mn (xs ((4 * q) + 2)).toNatClampNeg (xs ((4 * q) + 3)) (xs ((4 * q) + 1)).toNatClampNeg 0 fk fa T).2.2.2.1) ((sprT wn mn (xs ((4 * q) + 2)).toNatClampNeg (xs ((4 * q) + 3)) (xs ((4 * q) + 1)).toNatClampNeg 0 fk fa T).2.1) ((sprT wn mn (xs ((4 * q) + 2)).toNatClampNeg (xs ((4 * q) + 3)) (xs ((4 * q) + 1)).toNatClampNeg 0 fk fa T).2.2.1) sl1 ks1 ct1 sm1 le1 gr1) ++ (wM b d 0 (nI wn) (nI mn) (nI (sprT wn mn (xs ((4 * q) + 2)).toNatClampNeg (xs ((4 * q) + 3)) (xs ((4 * q) + 1)).toNatClampNeg 0 fk fa T).2.2.2.1) ks3 ct3 sm3 le3 gr3 ((sprT wn mn (xs ((4 * q) + 2)).toNatClampNeg (xs ((4 * q) + 3)) (xs ((4 * q) + 1)).toNatClampNeg 0 fk fa T).2.1) ((sprT wn mn (xs ((4 * q) + 2)).toNatClampNeg (xs ((4 * q) + 3)) (xs ((4 * q) + 1)).toNatClampNeg 0 fk fa T).2.2.1)) ++ [(a9, .inl (k9, 1, .inr (.inl (vp_updL ov 0 (nI (sprT wn mn (xs ((4 * q) + 2)).toNatClampNeg (xs ((4 * q) + 3)) (xs ((4 * q) + 1)).toNatClampNeg 0 fk fa T).1).toInt64))))]) := hD
    show W p l e room_1 s m #[Value.ref sb] below meth c H locs (18 + q + 1 + 0) (67055 + 6 * q + 6 + 0) (lw_Z below #[Value.ref sb] s) (F0 m 414 ls [.int (nI (sprT wn mn (xs ((4 * q) + 2)).toNatClampNeg (xs ((4 * q) + 3)) (xs ((4 * q) + 1)).toNatClampNeg 0 fk fa T).1)])
    refine lv_istore (lv' := [(6, .int (nI (sprT wn mn (xs ((4 * q) + 2)).toNatClampNeg (xs ((4 * q) + 3)) (xs ((4 * q) + 1)).toNatClampNeg 0 fk fa T).1)), (5, .int 0), (0, .ref sb), (1, .ref (a 0)), (2, .ref (b 0)), (3, .ref a9), (4, .int (nI (4 * q)))]) hx hb dL_law_414 hl (by decide) rfl (fun ls hl => ?_)
    refine lv_aload_n hx hb dL_law_416 rfl (lv_at hl 4 rfl) ?_
    refine gi_callR (v := .int 0) (W.runV (As := []) (rest := []) ⟨hx, hb, hml, hown, hta⟩ (c_thrown l dC dI b d 0 (nI wn) (nI mn) (nI (sprT wn mn (xs ((4 * q) + 2)).toNatClampNeg (xs ((4 * q) + 3)) (xs ((4 * q) + 1)).toNatClampNeg 0 fk fa T).2.2.2.1) ks3 ct3 sm3 le3 gr3 ((sprT wn mn (xs ((4 * q) + 2)).toNatClampNeg (xs ((4 * q) + 3)) (xs ((4 * q) + 1)).toNatClampNeg 0 fk fa T).2.1) ((sprT wn mn (xs ((4 * q) + 2)).toNatClampNeg (xs ((4 * q) + 3)) (xs ((4 * q) + 1)).toNatClampNeg 0 fk fa T).2.2.1)) (cwV 0 hta (gV w312 w313 w314 w2 w315) rfl rfl rfl (by decide +kernel) ⟨Nat.le_of_ble_eq_true rfl, Nat.le_of_ble_eq_true rfl⟩) ⟨gb_R, va_recv hK hP (ci := 1) (q0 := 9) rfl rfl, fun U hU hW => ⟨rfl, by rw [hU]; exact hP.sub (ws' := (wM b d 0 (nI wn) (nI mn) (nI (sprT wn mn (xs ((4 * q) + 2)).toNatClampNeg (xs ((4 * q) + 3)) (xs ((4 * q) + 1)).toNatClampNeg 0 fk fa T).2.2.2.1) ks3 ct3 sm3 le3 gr3 ((sprT wn mn (xs ((4 * q) + 2)).toNatClampNeg (xs ((4 * q) + 3)) (xs ((4 * q) + 1)).toNatClampNeg 0 fk fa T).2.1) ((sprT wn mn (xs ((4 * q) + 2)).toNatClampNeg (xs ((4 * q) + 3)) (xs ((4 * q) + 1)).toNatClampNeg 0 fk fa T).2.2.1))) [9, 10, 11, 12, 13, 14, 15, 16] rfl, va_K.moved hW.alike (hK.sub (tys' := kM d) [8, 9, 10, 11, 12, 13, 14] rfl)⟩⟩ rfl rfl hl.1 rfl (lv_room (Nat.le_of_ble_eq_true rfl)) dL_law_417 ⟨by show 18 + q + 1 + 0 ≤ 1056; omega, by show 67055 + 6 * q + 6 + 0 ≤ 75331; omega⟩) ?_
    refine lv_iload hx hb dL_law_420 (lv_at hl 1 rfl) ?_
    refine lv_icmp_eq (tgt := 427) hx hb dL_law_422 (by decide) (fun h1 => ?_) (fun h1 => ?_)
    rotate_left
    · skip
      exact absurd rfl h1
    · skip
      refine lv_iload hx hb dL_law_427 (lv_at hl 1 rfl) ?_
      refine lv_if_ne (tgt := 444) hx hb dL_law_429 (by decide) (fun h2 => ?_) (fun h2 => ?_)
      · skip
        exact absurd rfl h2
      · skip
        refine lv_aload_n hx hb dL_law_432 rfl (lv_at hl 5 rfl) ?_
        refine lv_iconst (v := 0) hx hb dL_law_433 (by decide) ?_
        refine gi_as (y := nI 0) (nI_0.symm) ?_
        refine gi_lald hx hb hK hP 17 15 rfl rfl (k := 0) (by omega) (by decide) dL_law_434 ?_
        refine gi_asl (y := (nI (sprT wn mn (xs ((4 * q) + 2)).toNatClampNeg (xs ((4 * q) + 3)) (xs ((4 * q) + 1)).toNatClampNeg 0 fk fa T).1).toInt64) (pk_uLs) ?_
        refine lv_iload hx hb dL_law_435 (lv_at hl 0 rfl) ?_
        refine lv_i2l (v := (nI (sprT wn mn (xs ((4 * q) + 2)).toNatClampNeg (xs ((4 * q) + 3)) (xs ((4 * q) + 1)).toNatClampNeg 0 fk fa T).1).toInt64) hx hb dL_law_437 rfl ?_
        refine W.lcmp (x := ((nI (sprT wn mn (xs ((4 * q) + 2)).toNatClampNeg (xs ((4 * q) + 3)) (xs ((4 * q) + 1)).toNatClampNeg 0 fk fa T).1).toInt64)) (y := ((nI (sprT wn mn (xs ((4 * q) + 2)).toNatClampNeg (xs ((4 * q) + 3)) (xs ((4 * q) + 1)).toNatClampNeg 0 fk fa T).1).toInt64)) hx hb dL_law_438 ?_
        refine lv_if_eq (tgt := 444) hx hb dL_law_439 (by decide) (fun h3 => ?_) (fun h3 => ?_)
        · skip
          refine lv_goto (tgt := 731) hx hb dL_law_444 (by decide) ?_
          have hl := lv_sub hl [2, 3, 4, 5, 6] rfl
          have hl : lv_has ls 8 [(0, .ref sb), (1, .ref (a 0)), (2, .ref (b 0)), (3, .ref a9), (4, .int (nI (4 * q)))] := hl
          exact nxt _ _ _ _ _ _ _ _ _ ls ⟨σ1, sl1, ks1, ct1, sm1, le1, gr1, ks3, ct3, sm3, le3, gr3, hσ1, hr1, hr3, hP, hD, hS⟩ hl
        · skip
          exact absurd ((lg_cmp_eq _ _).mpr rfl) h3
  · skip
    rw [if_neg hLg] at hw
    subst hw
    obtain ⟨σ1, sl1, ks1, ct1, sm1, le1, gr1, ⟨hσ1, hr1⟩, hP1, hK1, hD1⟩ := hB.2 hLg
    rw [ht] at hP1
    obtain ⟨hP, hD⟩ := va_join (wr := (wM b d cd (nI wn) (nI mn) (nI T.1) ks2 ct2 sm2 le2 gr2 fk fa)) (w1 := ((wX a k (nI wn) (nI mn) (nI T.1) fk fa sl1 ks1 ct1 sm1 le1 gr1) ++ [(a9, .inl (k9, 1, .inr (.inl ov)))])) hP hD [0, 1, 2, 3, 4, 5, 6, 7, 8, 17] [9, 10, 11, 12, 13, 14, 15, 16] rfl rfl (by decide) (by decide) hk1 hFc hP1 hD1
    have hP := hP.sub (ws' := ((wX a k (nI wn) (nI mn) (nI T.1) fk fa sl1 ks1 ct1 sm1 le1 gr1) ++ (wM b d cd (nI wn) (nI mn) (nI T.1) ks2 ct2 sm2 le2 gr2 fk fa) ++ [(a9, .inl (k9, 1, .inr (.inl ov)))])) [8, 9, 10, 11, 12, 13, 14, 15, 16, 0, 1, 2, 3, 4, 5, 6, 7, 17] rfl
    have hD := hD.sub (ws' := ((wX a k (nI wn) (nI mn) (nI T.1) fk fa sl1 ks1 ct1 sm1 le1 gr1) ++ (wM b d cd (nI wn) (nI mn) (nI T.1) ks2 ct2 sm2 le2 gr2 fk fa) ++ [(a9, .inl (k9, 1, .inr (.inl ov)))])) [8, 9, 10, 11, 12, 13, 14, 15, 16, 0, 1, 2, 3, 4, 5, 6, 7, 17] (by decide) rfl
    have hP : va_P (dC, dI) classes ((wX a k (nI wn) (nI mn) (nI T.1) fk fa sl1 ks1 ct1 sm1 le1 gr1) ++ (wM b d cd (nI wn) (nI mn) (nI T.1) ks2 ct2 sm2 le2 gr2 fk fa) ++ [(a9, .inl (k9, 1, .inr (.inl ov)))]) H1 := hP
    have hD : va_D (fun q : Nat => s.heap.size ≤ q) ((wX a k (nI wn) (nI mn) (nI T.1) fk fa sl1 ks1 ct1 sm1 le1 gr1) ++ (wM b d cd (nI wn) (nI mn) (nI T.1) ks2 ct2 sm2 le2 gr2 fk fa) ++ [(a9, .inl (k9, 1, .inr (.inl ov)))]) := hD
    generalize H1 = H at hP hS ⊢
    have hP : va_P (dC, dI) classes ((wX a k (nI wn) (nI mn) (nI T.1) fk fa sl1 ks1 ct1 sm1 le1 gr1) ++ (wM b d cd (nI wn) (nI mn) (nI T.1) ks2 ct2 sm2 le2 gr2 fk fa) ++ [(a9, .inl (k9, 1, .inr (.inl ov)))]) H := hP
    have hD : va_D (fun q : Nat => s.heap.size ≤ q) ((wX a k (nI wn) (nI mn) (nI T.1) fk fa sl1 ks1 ct1 sm1 le1 gr1) ++ (wM b d cd (nI wn) (nI mn) (nI T.1) ks2 ct2 sm2 le2 gr2 fk fa) ++ [(a9, .inl (k9, 1, .inr (.inl ov)))]) := hD
    show W p l e room_1 s m #[Value.ref sb] below meth c H locs (18 + q + 1) (67055 + 6 * q + 6) (lw_Z below #[Value.ref sb] s) (F0 m 390 ls [.int 1])
    refine lv_istore (lv' := [(5, .int 1), (0, .ref sb), (1, .ref (a 0)), (2, .ref (b 0)), (3, .ref a9), (4, .int (nI (4 * q)))]) hx hb dL_law_390 hl (by decide) rfl (fun ls hl => ?_)
    refine lv_aload_n hx hb dL_law_392 rfl (lv_at hl 3 rfl) ?_
    refine lv_aload_n hx hb dL_law_393 rfl (lv_at hl 1 rfl) ?_
    refine lv_iload hx hb dL_law_394 (lv_at hl 5 rfl) ?_
    refine lv_iconst (v := 1) hx hb dL_law_396 (by decide) ?_
    refine lv_iadd hx hb dL_law_397 ?_
    refine gi_as (y := nI ((4 * q) + 1)) (nI_1 _) ?_
    refine va_sld hx hb hX hbl hbA hS (vp_in_nI (n := ((4 * q) + 1)) (by omega) (by omega)) dL_law_398 ?_
    refine gi_as (y := xs ((4 * q) + 1)) (by rw [nI_clamp (by omega)]) ?_
    refine lv_aload_n hx hb dL_law_399 rfl (lv_at hl 1 rfl) ?_
    refine lv_iload hx hb dL_law_400 (lv_at hl 5 rfl) ?_
    refine lv_iconst (v := 2) hx hb dL_law_402 (by decide) ?_
    refine lv_iadd hx hb dL_law_403 ?_
    refine gi_as (y := nI ((4 * q) + 2)) (nI_add _ 2) ?_
    refine va_sld hx hb hX hbl hbA hS (vp_in_nI (n := ((4 * q) + 2)) (by omega) (by omega)) dL_law_404 ?_
    refine gi_as (y := xs ((4 * q) + 2)) (by rw [nI_clamp (by omega)]) ?_
    refine lv_aload_n hx hb dL_law_405 rfl (lv_at hl 1 rfl) ?_
    refine lv_iload hx hb dL_law_406 (lv_at hl 5 rfl) ?_
    refine lv_iconst (v := 3) hx hb dL_law_408 (by decide) ?_
    refine lv_iadd hx hb dL_law_409 ?_
    refine gi_as (y := nI ((4 * q) + 3)) (nI_add _ 3) ?_
    refine va_sld hx hb hX hbl hbA hS (vp_in_nI (n := ((4 * q) + 3)) (by omega) (by omega)) dL_law_410 ?_
    refine gi_as (y := xs ((4 * q) + 3)) (by rw [nI_clamp (by omega)]) ?_
    have hPc := hP.sub (ws' := (wM b d cd (nI wn) (nI mn) (nI T.1) ks2 ct2 sm2 le2 gr2 fk fa)) [9, 10, 11, 12, 13, 14, 15, 16] rfl
    have hDc := hD.sub (ws' := (wM b d cd (nI wn) (nI mn) (nI T.1) ks2 ct2 sm2 le2 gr2 fk fa)) [9, 10, 11, 12, 13, 14, 15, 16] (by decide) rfl
    have hKc := hK.sub (tys' := (kM d)) [8, 9, 10, 11, 12, 13, 14] rfl
    have hFc := va_free (wc := (wM b d cd (nI wn) (nI mn) (nI T.1) ks2 ct2 sm2 le2 gr2 fk fa)) hD hS hA [9, 10, 11, 12, 13, 14, 15, 16] rfl
    refine va_calli (va_runV (As := [.int (xs ((4 * q) + 1)), .int (xs ((4 * q) + 2)), .int (xs ((4 * q) + 3))]) (rest := []) ⟨hx, hb, hml, hown, hta⟩ (c_Mspread l dC dI b d cd wn mn fk fa T ks2 ct2 sm2 le2 gr2 hrep2 (xs ((4 * q) + 1)) (xs ((4 * q) + 2)) (xs ((4 * q) + 3)) H.size) (cwV 3 hta (gV w349 w350 w351 w2 w352) rfl rfl rfl (by decide +kernel) ⟨Nat.le_of_ble_eq_true rfl, Nat.le_of_ble_eq_true rfl⟩) ⟨gb_W, va_recv hKc hPc (ci := 1) (q0 := 0) rfl rfl, fun U hU hW => ⟨rfl, by rw [hU], by rw [hU]; exact hPc, va_K.moved hW.alike hKc, hDc.weaken (fun _ _ _ _ => trivial)⟩⟩ rfl rfl hl.1 rfl (lv_room (Nat.le_of_ble_eq_true rfl)) dL_law_411 ⟨by show 18 + q + 1 + 0 ≤ 1056; omega, by show 67055 + 6 * q + 6 + 0 ≤ 75331; omega⟩) hS (fun q _ h => hFc q h) hFc (fun r_8 u2 t H1 locs ht hvm hw2 hB2 hz1 hk1 hS => ?_)
    rw [if_neg hLg] at hw2
    subst hw2
    obtain ⟨ks3, ct3, sm3, le3, gr3, hr3, hP1, hK1, hD1⟩ := hB2.2 hLg
    rw [ht] at hP1
    obtain ⟨hP, hD⟩ := va_join (wr := ((wX a k (nI wn) (nI mn) (nI T.1) fk fa sl1 ks1 ct1 sm1 le1 gr1) ++ [(a9, .inl (k9, 1, .inr (.inl ov)))])) (w1 := (wM b d 1 (nI wn) (nI mn) (nI T.1) ks3 ct3 sm3 le3 gr3 fk fa)) hP hD [9, 10, 11, 12, 13, 14, 15, 16] [0, 1, 2, 3, 4, 5, 6, 7, 8, 17] rfl rfl (by decide) (by decide) hk1 hFc hP1 hD1
    have hP := hP.sub (ws' := ((wX a k (nI wn) (nI mn) (nI T.1) fk fa sl1 ks1 ct1 sm1 le1 gr1) ++ (wM b d 1 (nI wn) (nI mn) (nI T.1) ks3 ct3 sm3 le3 gr3 fk fa) ++ [(a9, .inl (k9, 1, .inr (.inl ov)))])) [0, 1, 2, 3, 4, 5, 6, 7, 8, 10, 11, 12, 13, 14, 15, 16, 17, 9] rfl
    have hD := hD.sub (ws' := ((wX a k (nI wn) (nI mn) (nI T.1) fk fa sl1 ks1 ct1 sm1 le1 gr1) ++ (wM b d 1 (nI wn) (nI mn) (nI T.1) ks3 ct3 sm3 le3 gr3 fk fa) ++ [(a9, .inl (k9, 1, .inr (.inl ov)))])) [0, 1, 2, 3, 4, 5, 6, 7, 8, 10, 11, 12, 13, 14, 15, 16, 17, 9] (by decide) rfl
    have hP : va_P (dC, dI) classes ((wX a k (nI wn) (nI mn) (nI T.1) fk fa sl1 ks1 ct1 sm1 le1 gr1) ++ (wM b d 1 (nI wn) (nI mn) (nI T.1) ks3 ct3 sm3 le3 gr3 fk fa) ++ [(a9, .inl (k9, 1, .inr (.inl ov)))]) H1 := hP
    have hD : va_D (fun q : Nat => s.heap.size ≤ q) ((wX a k (nI wn) (nI mn) (nI T.1) fk fa sl1 ks1 ct1 sm1 le1 gr1) ++ (wM b d 1 (nI wn) (nI mn) (nI T.1) ks3 ct3 sm3 le3 gr3 fk fa) ++ [(a9, .inl (k9, 1, .inr (.inl ov)))]) := hD
    generalize H1 = H at hP hS ⊢
    have hP : va_P (dC, dI) classes ((wX a k (nI wn) (nI mn) (nI T.1) fk fa sl1 ks1 ct1 sm1 le1 gr1) ++ (wM b d 1 (nI wn) (nI mn) (nI T.1) ks3 ct3 sm3 le3 gr3 fk fa) ++ [(a9, .inl (k9, 1, .inr (.inl ov)))]) H := hP
    have hD : va_D (fun q : Nat => s.heap.size ≤ q) ((wX a k (nI wn) (nI mn) (nI T.1) fk fa sl1 ks1 ct1 sm1 le1 gr1) ++ (wM b d 1 (nI wn) (nI mn) (nI T.1) ks3 ct3 sm3 le3 gr3 fk fa) ++ [(a9, .inl (k9, 1, .inr (.inl ov)))]) := hD
    show W p l e room_1 s m #[Value.ref sb] below meth c H locs (18 + q + 1 + 0) (67055 + 6 * q + 6 + 0) (lw_Z below #[Value.ref sb] s) (F0 m 414 ls [.int 0])
    refine lv_istore (lv' := [(6, .int 0), (5, .int 1), (0, .ref sb), (1, .ref (a 0)), (2, .ref (b 0)), (3, .ref a9), (4, .int (nI (4 * q)))]) hx hb dL_law_414 hl (by decide) rfl (fun ls hl => ?_)
    refine lv_aload_n hx hb dL_law_416 rfl (lv_at hl 4 rfl) ?_
    refine gi_callR (v := .int 1) (W.runV (As := []) (rest := []) ⟨hx, hb, hml, hown, hta⟩ (c_thrown l dC dI b d 1 (nI wn) (nI mn) (nI T.1) ks3 ct3 sm3 le3 gr3 fk fa) (cwV 0 hta (gV w312 w313 w314 w2 w315) rfl rfl rfl (by decide +kernel) ⟨Nat.le_of_ble_eq_true rfl, Nat.le_of_ble_eq_true rfl⟩) ⟨gb_R, va_recv hK hP (ci := 1) (q0 := 9) rfl rfl, fun U hU hW => ⟨rfl, by rw [hU]; exact hP.sub (ws' := (wM b d 1 (nI wn) (nI mn) (nI T.1) ks3 ct3 sm3 le3 gr3 fk fa)) [9, 10, 11, 12, 13, 14, 15, 16] rfl, va_K.moved hW.alike (hK.sub (tys' := kM d) [8, 9, 10, 11, 12, 13, 14] rfl)⟩⟩ rfl rfl hl.1 rfl (lv_room (Nat.le_of_ble_eq_true rfl)) dL_law_417 ⟨by show 18 + q + 1 + 0 ≤ 1056; omega, by show 67055 + 6 * q + 6 + 0 ≤ 75331; omega⟩) ?_
    refine lv_iload hx hb dL_law_420 (lv_at hl 1 rfl) ?_
    refine lv_icmp_eq (tgt := 427) hx hb dL_law_422 (by decide) (fun h1 => ?_) (fun h1 => ?_)
    rotate_left
    · skip
      exact absurd rfl h1
    · skip
      refine lv_iload hx hb dL_law_427 (lv_at hl 1 rfl) ?_
      refine lv_if_ne (tgt := 444) hx hb dL_law_429 (by decide) (fun h2 => ?_) (fun h2 => ?_)
      · skip
        refine lv_goto (tgt := 731) hx hb dL_law_444 (by decide) ?_
        have hl := lv_sub hl [2, 3, 4, 5, 6] rfl
        have hl : lv_has ls 8 [(0, .ref sb), (1, .ref (a 0)), (2, .ref (b 0)), (3, .ref a9), (4, .int (nI (4 * q)))] := hl
        exact nxt _ _ _ _ _ _ _ _ _ ls ⟨σ1, sl1, ks1, ct1, sm1, le1, gr1, ks3, ct3, sm3, le3, gr3, hσ1, hr1, hr3, hP, hD, hS⟩ hl
      · skip
        exact absurd h2 (by decide)
set_option maxHeartbeats 4000000 in
set_option maxRecDepth 100000 in
/-- the law at roll -/
theorem lc_roll {p : Program} {l : Launch} {e : Env} {s : State} {m : MethodId} {below : List Frame} {meth : Method} {c : Code} {dC : Nat → ClassId} {dI : Nat → Nat → Nat} {sb L : Nat} {xs : Nat → Int32} {a : Nat → Nat} {k : Nat → ClassId} {b : Nat → Nat} {d : Nat → ClassId} {a9 : Nat} {k9 : ClassId} (hnt : l.stackTraces = false) (hL : L ≤ 2048) (C0 : lw_At p s m meth c sb L xs) (hT : thrE (fun q : Nat => s.heap.size ≤ q) s s.heap) (hK : va_K (dC, dI) classes (kX k ++ kM d ++ [(k9, .long)]) s) (q : Nat) (hq : 4 * q + 4 ≤ L) (nxt : (∀ (wn mn : Nat) (fk : Nat → Int32) (fa : Nat → Int64) (T : TB) (cd : Int32) (ov : Nat → Int64) (H : Heap) (locs : List Loc) (ls : Array Slot), lwI dC dI a k b d a9 k9 s H locs wn mn fk fa T cd ov → lv_has ls 8 [(0, .ref sb), (1, .ref (a 0)), (2, .ref (b 0)), (3, .ref a9), (4, .int (nI (4 * q)))] → W p l e room_1 s m #[Value.ref sb] below meth c H locs (18 + q + 1) (67055 + 6 * q + 6) (lw_Z below #[Value.ref sb] s) (F0 m 731 ls []))) (wn mn : Nat) (fk : Nat → Int32) (fa : Nat → Int64) (T : TB) (cd : Int32) (ov : Nat → Int64) (H : Heap) (locs : List Loc) (ls : Array Slot) (hI : lwI dC dI a k b d a9 k9 s H locs wn mn fk fa T cd ov) (hl : lv_has ls 8 [(0, .ref sb), (1, .ref (a 0)), (2, .ref (b 0)), (3, .ref a9), (4, .int (nI (4 * q)))]) : W p l e room_1 s m #[Value.ref sb] below meth c H locs (18 + q) (67055 + 6 * q) (lw_Z below #[Value.ref sb] s) (F0 m 447 ls []) := by
  obtain ⟨hx, hb, hr, hml, hown, hts, hX, hbl, hlocks, hgv⟩ := C0
  have hta : ∀ w ∈ wAll, w.before #[Value.ref sb] s = true := fun w h => hts w (wA_tbl h)
  have hown : s.vm.findClass "GroupRowsLaw" = some m.cls := hown
  have hA : ∀ q : Nat, s.heap.size ≤ q → (fun q : Nat => s.heap.size ≤ q) q := fun _ h => h
  have hbA : ¬ (fun q : Nat => s.heap.size ≤ q) sb := Nat.not_le.mpr hbl
  obtain ⟨σ, sl, ks, ct, sm, le, gr, ks2, ct2, sm2, le2, gr2, hσ, hrep, hrep2, hP, hD, hS⟩ := hI
  have hP : va_P (dC, dI) classes ((wX a k (nI wn) (nI mn) (nI T.1) fk fa sl ks ct sm le gr) ++ (wM b d cd (nI wn) (nI mn) (nI T.1) ks2 ct2 sm2 le2 gr2 fk fa) ++ [(a9, .inl (k9, 1, .inr (.inl ov)))]) H := hP
  have hD : va_D (fun q : Nat => s.heap.size ≤ q) ((wX a k (nI wn) (nI mn) (nI T.1) fk fa sl ks ct sm le gr) ++ (wM b d cd (nI wn) (nI mn) (nI T.1) ks2 ct2 sm2 le2 gr2 fk fa) ++ [(a9, .inl (k9, 1, .inr (.inl ov)))]) := hD
  refine lv_aload_n hx hb dL_law_447 rfl (lv_at hl 1 rfl) ?_
  refine lv_aload_n hx hb dL_law_448 rfl (lv_at hl 0 rfl) ?_
  refine lv_iload hx hb dL_law_449 (lv_at hl 4 rfl) ?_
  refine lv_iconst (v := 1) hx hb dL_law_451 (by decide) ?_
  refine lv_iadd hx hb dL_law_452 ?_
  refine gi_as (y := nI ((4 * q) + 1)) (nI_1 _) ?_
  refine va_sld hx hb hX hbl hbA hS (vp_in_nI (n := ((4 * q) + 1)) (by omega) (by omega)) dL_law_453 ?_
  refine gi_as (y := xs ((4 * q) + 1)) (by rw [nI_clamp (by omega)]) ?_
  refine lv_aload_n hx hb dL_law_454 rfl (lv_at hl 3 rfl) ?_
  have hPc := hP.sub (ws' := ((wX a k (nI wn) (nI mn) (nI T.1) fk fa sl ks ct sm le gr) ++ [(a9, .inl (k9, 1, .inr (.inl ov)))])) [0, 1, 2, 3, 4, 5, 6, 7, 8, 17] rfl
  have hDc := hD.sub (ws' := ((wX a k (nI wn) (nI mn) (nI T.1) fk fa sl ks ct sm le gr) ++ [(a9, .inl (k9, 1, .inr (.inl ov)))])) [0, 1, 2, 3, 4, 5, 6, 7, 8, 17] (by decide) rfl
  have hKc := hK.sub (tys' := ((kX k) ++ [(k9, .long)])) [0, 1, 2, 3, 4, 5, 6, 7, 15] rfl
  have hFc := va_free (wc := ((wX a k (nI wn) (nI mn) (nI T.1) fk fa sl ks ct sm le gr) ++ [(a9, .inl (k9, 1, .inr (.inl ov)))])) hD hS hA [0, 1, 2, 3, 4, 5, 6, 7, 8, 17] rfl
  refine va_calli (vx_runSW (As := [.ref (a 0), .int (xs ((4 * q) + 1)), .ref a9]) (rest := []) ⟨hx, hb, hml, hown, hta⟩ (c_Lroll l hnt dC dI a k wn mn fk fa T σ sl ks ct sm le gr hσ hrep a9 k9 ov (xs ((4 * q) + 1)) H.size) (vx_cwSW 3 hta (gSW w229 w230 w0 w231) rfl rfl rfl (by decide +kernel) ⟨Nat.le_of_ble_eq_true rfl, Nat.le_of_ble_eq_true rfl⟩) ⟨gb_X, fun U hU hW => ⟨rfl, by rw [hU], by rw [hU]; exact hPc, va_K.moved hW.alike hKc, hDc.weaken (fun _ _ _ _ => trivial), by rw [hU]; exact ((thrE.warm hW hT).kept hS.2.1).narrow hFc⟩⟩ rfl rfl hl.1 rfl (lv_room (Nat.le_of_ble_eq_true rfl)) dL_law_455 ⟨by show 18 + q + 1 ≤ 1056; omega, by show 67055 + 6 * q + 6 ≤ 75331; omega⟩) hS (fun q _ h => hFc q h) hFc (fun r_9 u t H1 locs ht hvm hw hB hz1 hk1 hS => ?_)
  by_cases hLg : 0 ≤ (xs ((4 * q) + 1)) ∧ (xs ((4 * q) + 1)) < nI wn
  · skip
    rw [if_pos hLg] at hw
    subst hw
    obtain ⟨hroll, σ1, sl1, ks1, ct1, sm1, le1, gr1, ⟨hσ1, hr1⟩, hP1, hK1, hD1⟩ := hB.1 hLg
    rw [ht] at hP1
    obtain ⟨hP, hD⟩ := va_join (wr := (wM b d cd (nI wn) (nI mn) (nI T.1) ks2 ct2 sm2 le2 gr2 fk fa)) (w1 := ((wX a k (nI wn) (nI mn) (nI u.1) fk fa sl1 ks1 ct1 sm1 le1 gr1) ++ [(a9, .inl (k9, 1, .inr (.inl (vp_updL ov 0 (nI u.1).toInt64))))])) hP hD [0, 1, 2, 3, 4, 5, 6, 7, 8, 17] [9, 10, 11, 12, 13, 14, 15, 16] rfl rfl (by decide) (by decide) hk1 hFc hP1 hD1
    have hP := hP.sub (ws' := ((wX a k (nI wn) (nI mn) (nI u.1) fk fa sl1 ks1 ct1 sm1 le1 gr1) ++ (wM b d cd (nI wn) (nI mn) (nI T.1) ks2 ct2 sm2 le2 gr2 fk fa) ++ [(a9, .inl (k9, 1, .inr (.inl (vp_updL ov 0 (nI u.1).toInt64))))])) [8, 9, 10, 11, 12, 13, 14, 15, 16, 0, 1, 2, 3, 4, 5, 6, 7, 17] rfl
    have hD := hD.sub (ws' := ((wX a k (nI wn) (nI mn) (nI u.1) fk fa sl1 ks1 ct1 sm1 le1 gr1) ++ (wM b d cd (nI wn) (nI mn) (nI T.1) ks2 ct2 sm2 le2 gr2 fk fa) ++ [(a9, .inl (k9, 1, .inr (.inl (vp_updL ov 0 (nI u.1).toInt64))))])) [8, 9, 10, 11, 12, 13, 14, 15, 16, 0, 1, 2, 3, 4, 5, 6, 7, 17] (by decide) rfl
    have hP : va_P (dC, dI) classes ((wX a k (nI wn) (nI mn) (nI u.1) fk fa sl1 ks1 ct1 sm1 le1 gr1) ++ (wM b d cd (nI wn) (nI mn) (nI T.1) ks2 ct2 sm2 le2 gr2 fk fa) ++ [(a9, .inl (k9, 1, .inr (.inl (vp_updL ov 0 (nI u.1).toInt64))))]) H1 := hP
    have hD : va_D (fun q : Nat => s.heap.size ≤ q) ((wX a k (nI wn) (nI mn) (nI u.1) fk fa sl1 ks1 ct1 sm1 le1 gr1) ++ (wM b d cd (nI wn) (nI mn) (nI T.1) ks2 ct2 sm2 le2 gr2 fk fa) ++ [(a9, .inl (k9, 1, .inr (.inl (vp_updL ov 0 (nI u.1).toInt64))))]) := hD
    generalize H1 = H at hP hS ⊢
    have hP : va_P (dC, dI) classes ((wX a k (nI wn) (nI mn) (nI u.1) fk fa sl1 ks1 ct1 sm1 le1 gr1) ++ (wM b d cd (nI wn) (nI mn) (nI T.1) ks2 ct2 sm2 le2 gr2 fk fa) ++ [(a9, .inl (k9, 1, .inr (.inl (vp_updL ov 0 (nI u.1).toInt64))))]) H := hP
    have hD : va_D (fun q : Nat => s.heap.size ≤ q) ((wX a k (nI wn) (nI mn) (nI u.1) fk fa sl1 ks1 ct1 sm1 le1 gr1) ++ (wM b d cd (nI wn) (nI mn) (nI T.1) ks2 ct2 sm2 le2 gr2 fk fa) ++ [(a9, .inl (k9, 1, .inr (.inl (vp_updL ov 0 (nI u.1).toInt64))))]) := hD
    show W p l e room_1 s m #[Value.ref sb] below meth c H locs (18 + q + 1) (67055 + 6 * q + 6) (lw_Z below #[Value.ref sb] s) (F0 m 458 ls [.int 0])
    refine lv_istore (lv' := [(5, .int 0), (0, .ref sb), (1, .ref (a 0)), (2, .ref (b 0)), (3, .ref a9), (4, .int (nI (4 * q)))]) hx hb dL_law_458 hl (by decide) rfl (fun ls hl => ?_)
    refine lv_aload_n hx hb dL_law_460 rfl (lv_at hl 3 rfl) ?_
    refine lv_aload_n hx hb dL_law_461 rfl (lv_at hl 1 rfl) ?_
    refine lv_iload hx hb dL_law_462 (lv_at hl 5 rfl) ?_
    refine lv_iconst (v := 1) hx hb dL_law_464 (by decide) ?_
    refine lv_iadd hx hb dL_law_465 ?_
    refine gi_as (y := nI ((4 * q) + 1)) (nI_1 _) ?_
    refine va_sld hx hb hX hbl hbA hS (vp_in_nI (n := ((4 * q) + 1)) (by omega) (by omega)) dL_law_466 ?_
    refine gi_as (y := xs ((4 * q) + 1)) (by rw [nI_clamp (by omega)]) ?_
    have hPc := hP.sub (ws' := (wM b d cd (nI wn) (nI mn) (nI T.1) ks2 ct2 sm2 le2 gr2 fk fa)) [9, 10, 11, 12, 13, 14, 15, 16] rfl
    have hDc := hD.sub (ws' := (wM b d cd (nI wn) (nI mn) (nI T.1) ks2 ct2 sm2 le2 gr2 fk fa)) [9, 10, 11, 12, 13, 14, 15, 16] (by decide) rfl
    have hKc := hK.sub (tys' := (kM d)) [8, 9, 10, 11, 12, 13, 14] rfl
    have hFc := va_free (wc := (wM b d cd (nI wn) (nI mn) (nI T.1) ks2 ct2 sm2 le2 gr2 fk fa)) hD hS hA [9, 10, 11, 12, 13, 14, 15, 16] rfl
    refine va_calli (va_runV (As := [.int (xs ((4 * q) + 1))]) (rest := []) ⟨hx, hb, hml, hown, hta⟩ (c_Mroll l dC dI b d cd wn mn fk fa T ks2 ct2 sm2 le2 gr2 hrep2 (xs ((4 * q) + 1)) H.size) (cwV 1 hta (gV w353 w354 w355 w2 w356) rfl rfl rfl (by decide +kernel) ⟨Nat.le_of_ble_eq_true rfl, Nat.le_of_ble_eq_true rfl⟩) ⟨gb_W, va_recv hKc hPc (ci := 1) (q0 := 0) rfl rfl, fun U hU hW => ⟨rfl, by rw [hU], by rw [hU]; exact hPc, va_K.moved hW.alike hKc, hDc.weaken (fun _ _ _ _ => trivial)⟩⟩ rfl rfl hl.1 rfl (lv_room (Nat.le_of_ble_eq_true rfl)) dL_law_467 ⟨by show 18 + q + 1 + 0 ≤ 1056; omega, by show 67055 + 6 * q + 6 + 0 ≤ 75331; omega⟩) hS (fun q _ h => hFc q h) hFc (fun r_8 u2 t H1 locs ht hvm hw2 hB2 hz1 hk1 hS => ?_)
    rw [if_pos hLg] at hw2
    subst hw2
    obtain ⟨hroll2, ks3, ct3, sm3, le3, gr3, hr3, hP1, hK1, hD1⟩ := hB2.1 hLg
    rw [ht] at hP1
    obtain ⟨hP, hD⟩ := va_join (wr := ((wX a k (nI wn) (nI mn) (nI u.1) fk fa sl1 ks1 ct1 sm1 le1 gr1) ++ [(a9, .inl (k9, 1, .inr (.inl (vp_updL ov 0 (nI u.1).toInt64))))])) (w1 := (wM b d 0 (nI wn) (nI mn) (nI u2.1) ks3 ct3 sm3 le3 gr3 fk fa)) hP hD [9, 10, 11, 12, 13, 14, 15, 16] [0, 1, 2, 3, 4, 5, 6, 7, 8, 17] rfl rfl (by decide) (by decide) hk1 hFc hP1 hD1
    have hP := hP.sub (ws' := ((wX a k (nI wn) (nI mn) (nI u.1) fk fa sl1 ks1 ct1 sm1 le1 gr1) ++ (wM b d 0 (nI wn) (nI mn) (nI u2.1) ks3 ct3 sm3 le3 gr3 fk fa) ++ [(a9, .inl (k9, 1, .inr (.inl (vp_updL ov 0 (nI u.1).toInt64))))])) [0, 1, 2, 3, 4, 5, 6, 7, 8, 10, 11, 12, 13, 14, 15, 16, 17, 9] rfl
    have hD := hD.sub (ws' := ((wX a k (nI wn) (nI mn) (nI u.1) fk fa sl1 ks1 ct1 sm1 le1 gr1) ++ (wM b d 0 (nI wn) (nI mn) (nI u2.1) ks3 ct3 sm3 le3 gr3 fk fa) ++ [(a9, .inl (k9, 1, .inr (.inl (vp_updL ov 0 (nI u.1).toInt64))))])) [0, 1, 2, 3, 4, 5, 6, 7, 8, 10, 11, 12, 13, 14, 15, 16, 17, 9] (by decide) rfl
    have hP : va_P (dC, dI) classes ((wX a k (nI wn) (nI mn) (nI u.1) fk fa sl1 ks1 ct1 sm1 le1 gr1) ++ (wM b d 0 (nI wn) (nI mn) (nI u2.1) ks3 ct3 sm3 le3 gr3 fk fa) ++ [(a9, .inl (k9, 1, .inr (.inl (vp_updL ov 0 (nI u.1).toInt64))))]) H1 := hP
    have hD : va_D (fun q : Nat => s.heap.size ≤ q) ((wX a k (nI wn) (nI mn) (nI u.1) fk fa sl1 ks1 ct1 sm1 le1 gr1) ++ (wM b d 0 (nI wn) (nI mn) (nI u2.1) ks3 ct3 sm3 le3 gr3 fk fa) ++ [(a9, .inl (k9, 1, .inr (.inl (vp_updL ov 0 (nI u.1).toInt64))))]) := hD
    generalize H1 = H at hP hS ⊢
    have hP : va_P (dC, dI) classes ((wX a k (nI wn) (nI mn) (nI u.1) fk fa sl1 ks1 ct1 sm1 le1 gr1) ++ (wM b d 0 (nI wn) (nI mn) (nI u2.1) ks3 ct3 sm3 le3 gr3 fk fa) ++ [(a9, .inl (k9, 1, .inr (.inl (vp_updL ov 0 (nI u.1).toInt64))))]) H := hP
    have hD : va_D (fun q : Nat => s.heap.size ≤ q) ((wX a k (nI wn) (nI mn) (nI u.1) fk fa sl1 ks1 ct1 sm1 le1 gr1) ++ (wM b d 0 (nI wn) (nI mn) (nI u2.1) ks3 ct3 sm3 le3 gr3 fk fa) ++ [(a9, .inl (k9, 1, .inr (.inl (vp_updL ov 0 (nI u.1).toInt64))))]) := hD
    have hun := (rollR_un hroll hroll2).1
    have hr3 := rollR_rep hroll hroll2 hr3
    rw [← hun] at hP hD
    rw [← hun]
    have hP : va_P (dC, dI) classes ((wX a k (nI wn) (nI mn) (nI u.1) fk fa sl1 ks1 ct1 sm1 le1 gr1) ++ (wM b d 0 (nI wn) (nI mn) (nI u.1) ks3 ct3 sm3 le3 gr3 fk fa) ++ [(a9, .inl (k9, 1, .inr (.inl (vp_updL ov 0 (nI u.1).toInt64))))]) H := hP
    have hD : va_D (fun q : Nat => s.heap.size ≤ q) ((wX a k (nI wn) (nI mn) (nI u.1) fk fa sl1 ks1 ct1 sm1 le1 gr1) ++ (wM b d 0 (nI wn) (nI mn) (nI u.1) ks3 ct3 sm3 le3 gr3 fk fa) ++ [(a9, .inl (k9, 1, .inr (.inl (vp_updL ov 0 (nI u.1).toInt64))))]) := hD
    show W p l e room_1 s m #[Value.ref sb] below meth c H locs (18 + q + 1 + 0) (67055 + 6 * q + 6 + 0) (lw_Z below #[Value.ref sb] s) (F0 m 470 ls [.int (nI u.1)])
    refine lv_istore (lv' := [(6, .int (nI u.1)), (5, .int 0), (0, .ref sb), (1, .ref (a 0)), (2, .ref (b 0)), (3, .ref a9), (4, .int (nI (4 * q)))]) hx hb dL_law_470 hl (by decide) rfl (fun ls hl => ?_)
    refine lv_aload_n hx hb dL_law_472 rfl (lv_at hl 4 rfl) ?_
    refine gi_callR (v := .int 0) (W.runV (As := []) (rest := []) ⟨hx, hb, hml, hown, hta⟩ (c_thrown l dC dI b d 0 (nI wn) (nI mn) (nI u.1) ks3 ct3 sm3 le3 gr3 fk fa) (cwV 0 hta (gV w312 w313 w314 w2 w315) rfl rfl rfl (by decide +kernel) ⟨Nat.le_of_ble_eq_true rfl, Nat.le_of_ble_eq_true rfl⟩) ⟨gb_R, va_recv hK hP (ci := 1) (q0 := 9) rfl rfl, fun U hU hW => ⟨rfl, by rw [hU]; exact hP.sub (ws' := (wM b d 0 (nI wn) (nI mn) (nI u.1) ks3 ct3 sm3 le3 gr3 fk fa)) [9, 10, 11, 12, 13, 14, 15, 16] rfl, va_K.moved hW.alike (hK.sub (tys' := kM d) [8, 9, 10, 11, 12, 13, 14] rfl)⟩⟩ rfl rfl hl.1 rfl (lv_room (Nat.le_of_ble_eq_true rfl)) dL_law_473 ⟨by show 18 + q + 1 + 0 ≤ 1056; omega, by show 67055 + 6 * q + 6 + 0 ≤ 75331; omega⟩) ?_
    refine lv_iload hx hb dL_law_476 (lv_at hl 1 rfl) ?_
    refine lv_icmp_eq (tgt := 483) hx hb dL_law_478 (by decide) (fun h1 => ?_) (fun h1 => ?_)
    rotate_left
    · skip
      exact absurd rfl h1
    · skip
      refine lv_iload hx hb dL_law_483 (lv_at hl 1 rfl) ?_
      refine lv_if_ne (tgt := 500) hx hb dL_law_485 (by decide) (fun h2 => ?_) (fun h2 => ?_)
      · skip
        exact absurd rfl h2
      · skip
        refine lv_aload_n hx hb dL_law_488 rfl (lv_at hl 5 rfl) ?_
        refine lv_iconst (v := 0) hx hb dL_law_489 (by decide) ?_
        refine gi_as (y := nI 0) (nI_0.symm) ?_
        refine gi_lald hx hb hK hP 17 15 rfl rfl (k := 0) (by omega) (by decide) dL_law_490 ?_
        refine gi_asl (y := (nI u.1).toInt64) (pk_uLs) ?_
        refine lv_iload hx hb dL_law_491 (lv_at hl 0 rfl) ?_
        refine lv_i2l (v := (nI u.1).toInt64) hx hb dL_law_493 rfl ?_
        refine W.lcmp (x := ((nI u.1).toInt64)) (y := ((nI u.1).toInt64)) hx hb dL_law_494 ?_
        refine lv_if_eq (tgt := 500) hx hb dL_law_495 (by decide) (fun h3 => ?_) (fun h3 => ?_)
        · skip
          refine lv_goto (tgt := 731) hx hb dL_law_500 (by decide) ?_
          have hl := lv_sub hl [2, 3, 4, 5, 6] rfl
          have hl : lv_has ls 8 [(0, .ref sb), (1, .ref (a 0)), (2, .ref (b 0)), (3, .ref a9), (4, .int (nI (4 * q)))] := hl
          exact nxt _ _ _ _ _ _ _ _ _ ls ⟨σ1, sl1, ks1, ct1, sm1, le1, gr1, ks3, ct3, sm3, le3, gr3, hσ1, hr1, hr3, hP, hD, hS⟩ hl
        · skip
          exact absurd ((lg_cmp_eq _ _).mpr rfl) h3
  · skip
    rw [if_neg hLg] at hw
    subst hw
    obtain ⟨σ1, sl1, ks1, ct1, sm1, le1, gr1, ⟨hσ1, hr1⟩, hP1, hK1, hD1⟩ := hB.2 hLg
    rw [ht] at hP1
    obtain ⟨hP, hD⟩ := va_join (wr := (wM b d cd (nI wn) (nI mn) (nI T.1) ks2 ct2 sm2 le2 gr2 fk fa)) (w1 := ((wX a k (nI wn) (nI mn) (nI T.1) fk fa sl1 ks1 ct1 sm1 le1 gr1) ++ [(a9, .inl (k9, 1, .inr (.inl ov)))])) hP hD [0, 1, 2, 3, 4, 5, 6, 7, 8, 17] [9, 10, 11, 12, 13, 14, 15, 16] rfl rfl (by decide) (by decide) hk1 hFc hP1 hD1
    have hP := hP.sub (ws' := ((wX a k (nI wn) (nI mn) (nI T.1) fk fa sl1 ks1 ct1 sm1 le1 gr1) ++ (wM b d cd (nI wn) (nI mn) (nI T.1) ks2 ct2 sm2 le2 gr2 fk fa) ++ [(a9, .inl (k9, 1, .inr (.inl ov)))])) [8, 9, 10, 11, 12, 13, 14, 15, 16, 0, 1, 2, 3, 4, 5, 6, 7, 17] rfl
    have hD := hD.sub (ws' := ((wX a k (nI wn) (nI mn) (nI T.1) fk fa sl1 ks1 ct1 sm1 le1 gr1) ++ (wM b d cd (nI wn) (nI mn) (nI T.1) ks2 ct2 sm2 le2 gr2 fk fa) ++ [(a9, .inl (k9, 1, .inr (.inl ov)))])) [8, 9, 10, 11, 12, 13, 14, 15, 16, 0, 1, 2, 3, 4, 5, 6, 7, 17] (by decide) rfl
    have hP : va_P (dC, dI) classes ((wX a k (nI wn) (nI mn) (nI T.1) fk fa sl1 ks1 ct1 sm1 le1 gr1) ++ (wM b d cd (nI wn) (nI mn) (nI T.1) ks2 ct2 sm2 le2 gr2 fk fa) ++ [(a9, .inl (k9, 1, .inr (.inl ov)))]) H1 := hP
    have hD : va_D (fun q : Nat => s.heap.size ≤ q) ((wX a k (nI wn) (nI mn) (nI T.1) fk fa sl1 ks1 ct1 sm1 le1 gr1) ++ (wM b d cd (nI wn) (nI mn) (nI T.1) ks2 ct2 sm2 le2 gr2 fk fa) ++ [(a9, .inl (k9, 1, .inr (.inl ov)))]) := hD
    generalize H1 = H at hP hS ⊢
    have hP : va_P (dC, dI) classes ((wX a k (nI wn) (nI mn) (nI T.1) fk fa sl1 ks1 ct1 sm1 le1 gr1) ++ (wM b d cd (nI wn) (nI mn) (nI T.1) ks2 ct2 sm2 le2 gr2 fk fa) ++ [(a9, .inl (k9, 1, .inr (.inl ov)))]) H := hP
    have hD : va_D (fun q : Nat => s.heap.size ≤ q) ((wX a k (nI wn) (nI mn) (nI T.1) fk fa sl1 ks1 ct1 sm1 le1 gr1) ++ (wM b d cd (nI wn) (nI mn) (nI T.1) ks2 ct2 sm2 le2 gr2 fk fa) ++ [(a9, .inl (k9, 1, .inr (.inl ov)))]) := hD
    show W p l e room_1 s m #[Value.ref sb] below meth c H locs (18 + q + 1) (67055 + 6 * q + 6) (lw_Z below #[Value.ref sb] s) (F0 m 458 ls [.int 1])
    refine lv_istore (lv' := [(5, .int 1), (0, .ref sb), (1, .ref (a 0)), (2, .ref (b 0)), (3, .ref a9), (4, .int (nI (4 * q)))]) hx hb dL_law_458 hl (by decide) rfl (fun ls hl => ?_)
    refine lv_aload_n hx hb dL_law_460 rfl (lv_at hl 3 rfl) ?_
    refine lv_aload_n hx hb dL_law_461 rfl (lv_at hl 1 rfl) ?_
    refine lv_iload hx hb dL_law_462 (lv_at hl 5 rfl) ?_
    refine lv_iconst (v := 1) hx hb dL_law_464 (by decide) ?_
    refine lv_iadd hx hb dL_law_465 ?_
    refine gi_as (y := nI ((4 * q) + 1)) (nI_1 _) ?_
    refine va_sld hx hb hX hbl hbA hS (vp_in_nI (n := ((4 * q) + 1)) (by omega) (by omega)) dL_law_466 ?_
    refine gi_as (y := xs ((4 * q) + 1)) (by rw [nI_clamp (by omega)]) ?_
    have hPc := hP.sub (ws' := (wM b d cd (nI wn) (nI mn) (nI T.1) ks2 ct2 sm2 le2 gr2 fk fa)) [9, 10, 11, 12, 13, 14, 15, 16] rfl
    have hDc := hD.sub (ws' := (wM b d cd (nI wn) (nI mn) (nI T.1) ks2 ct2 sm2 le2 gr2 fk fa)) [9, 10, 11, 12, 13, 14, 15, 16] (by decide) rfl
    have hKc := hK.sub (tys' := (kM d)) [8, 9, 10, 11, 12, 13, 14] rfl
    have hFc := va_free (wc := (wM b d cd (nI wn) (nI mn) (nI T.1) ks2 ct2 sm2 le2 gr2 fk fa)) hD hS hA [9, 10, 11, 12, 13, 14, 15, 16] rfl
    refine va_calli (va_runV (As := [.int (xs ((4 * q) + 1))]) (rest := []) ⟨hx, hb, hml, hown, hta⟩ (c_Mroll l dC dI b d cd wn mn fk fa T ks2 ct2 sm2 le2 gr2 hrep2 (xs ((4 * q) + 1)) H.size) (cwV 1 hta (gV w353 w354 w355 w2 w356) rfl rfl rfl (by decide +kernel) ⟨Nat.le_of_ble_eq_true rfl, Nat.le_of_ble_eq_true rfl⟩) ⟨gb_W, va_recv hKc hPc (ci := 1) (q0 := 0) rfl rfl, fun U hU hW => ⟨rfl, by rw [hU], by rw [hU]; exact hPc, va_K.moved hW.alike hKc, hDc.weaken (fun _ _ _ _ => trivial)⟩⟩ rfl rfl hl.1 rfl (lv_room (Nat.le_of_ble_eq_true rfl)) dL_law_467 ⟨by show 18 + q + 1 + 0 ≤ 1056; omega, by show 67055 + 6 * q + 6 + 0 ≤ 75331; omega⟩) hS (fun q _ h => hFc q h) hFc (fun r_8 u2 t H1 locs ht hvm hw2 hB2 hz1 hk1 hS => ?_)
    rw [if_neg hLg] at hw2
    subst hw2
    obtain ⟨ks3, ct3, sm3, le3, gr3, hr3, hP1, hK1, hD1⟩ := hB2.2 hLg
    rw [ht] at hP1
    obtain ⟨hP, hD⟩ := va_join (wr := ((wX a k (nI wn) (nI mn) (nI T.1) fk fa sl1 ks1 ct1 sm1 le1 gr1) ++ [(a9, .inl (k9, 1, .inr (.inl ov)))])) (w1 := (wM b d 1 (nI wn) (nI mn) (nI T.1) ks3 ct3 sm3 le3 gr3 fk fa)) hP hD [9, 10, 11, 12, 13, 14, 15, 16] [0, 1, 2, 3, 4, 5, 6, 7, 8, 17] rfl rfl (by decide) (by decide) hk1 hFc hP1 hD1
    have hP := hP.sub (ws' := ((wX a k (nI wn) (nI mn) (nI T.1) fk fa sl1 ks1 ct1 sm1 le1 gr1) ++ (wM b d 1 (nI wn) (nI mn) (nI T.1) ks3 ct3 sm3 le3 gr3 fk fa) ++ [(a9, .inl (k9, 1, .inr (.inl ov)))])) [0, 1, 2, 3, 4, 5, 6, 7, 8, 10, 11, 12, 13, 14, 15, 16, 17, 9] rfl
    have hD := hD.sub (ws' := ((wX a k (nI wn) (nI mn) (nI T.1) fk fa sl1 ks1 ct1 sm1 le1 gr1) ++ (wM b d 1 (nI wn) (nI mn) (nI T.1) ks3 ct3 sm3 le3 gr3 fk fa) ++ [(a9, .inl (k9, 1, .inr (.inl ov)))])) [0, 1, 2, 3, 4, 5, 6, 7, 8, 10, 11, 12, 13, 14, 15, 16, 17, 9] (by decide) rfl
    have hP : va_P (dC, dI) classes ((wX a k (nI wn) (nI mn) (nI T.1) fk fa sl1 ks1 ct1 sm1 le1 gr1) ++ (wM b d 1 (nI wn) (nI mn) (nI T.1) ks3 ct3 sm3 le3 gr3 fk fa) ++ [(a9, .inl (k9, 1, .inr (.inl ov)))]) H1 := hP
    have hD : va_D (fun q : Nat => s.heap.size ≤ q) ((wX a k (nI wn) (nI mn) (nI T.1) fk fa sl1 ks1 ct1 sm1 le1 gr1) ++ (wM b d 1 (nI wn) (nI mn) (nI T.1) ks3 ct3 sm3 le3 gr3 fk fa) ++ [(a9, .inl (k9, 1, .inr (.inl ov)))]) := hD
    generalize H1 = H at hP hS ⊢
    have hP : va_P (dC, dI) classes ((wX a k (nI wn) (nI mn) (nI T.1) fk fa sl1 ks1 ct1 sm1 le1 gr1) ++ (wM b d 1 (nI wn) (nI mn) (nI T.1) ks3 ct3 sm3 le3 gr3 fk fa) ++ [(a9, .inl (k9, 1, .inr (.inl ov)))]) H := hP
    have hD : va_D (fun q : Nat => s.heap.size ≤ q) ((wX a k (nI wn) (nI mn) (nI T.1) fk fa sl1 ks1 ct1 sm1 le1 gr1) ++ (wM b d 1 (nI wn) (nI mn) (nI T.1) ks3 ct3 sm3 le3 gr3 fk fa) ++ [(a9, .inl (k9, 1, .inr (.inl ov)))]) := hD
    show W p l e room_1 s m #[Value.ref sb] below meth c H locs (18 + q + 1 + 0) (67055 + 6 * q + 6 + 0) (lw_Z below #[Value.ref sb] s) (F0 m 470 ls [.int 0])
    refine lv_istore (lv' := [(6, .int 0), (5, .int 1), (0, .ref sb), (1, .ref (a 0)), (2, .ref (b 0)), (3, .ref a9), (4, .int (nI (4 * q)))]) hx hb dL_law_470 hl (by decide) rfl (fun ls hl => ?_)
    refine lv_aload_n hx hb dL_law_472 rfl (lv_at hl 4 rfl) ?_
    refine gi_callR (v := .int 1) (W.runV (As := []) (rest := []) ⟨hx, hb, hml, hown, hta⟩ (c_thrown l dC dI b d 1 (nI wn) (nI mn) (nI T.1) ks3 ct3 sm3 le3 gr3 fk fa) (cwV 0 hta (gV w312 w313 w314 w2 w315) rfl rfl rfl (by decide +kernel) ⟨Nat.le_of_ble_eq_true rfl, Nat.le_of_ble_eq_true rfl⟩) ⟨gb_R, va_recv hK hP (ci := 1) (q0 := 9) rfl rfl, fun U hU hW => ⟨rfl, by rw [hU]; exact hP.sub (ws' := (wM b d 1 (nI wn) (nI mn) (nI T.1) ks3 ct3 sm3 le3 gr3 fk fa)) [9, 10, 11, 12, 13, 14, 15, 16] rfl, va_K.moved hW.alike (hK.sub (tys' := kM d) [8, 9, 10, 11, 12, 13, 14] rfl)⟩⟩ rfl rfl hl.1 rfl (lv_room (Nat.le_of_ble_eq_true rfl)) dL_law_473 ⟨by show 18 + q + 1 + 0 ≤ 1056; omega, by show 67055 + 6 * q + 6 + 0 ≤ 75331; omega⟩) ?_
    refine lv_iload hx hb dL_law_476 (lv_at hl 1 rfl) ?_
    refine lv_icmp_eq (tgt := 483) hx hb dL_law_478 (by decide) (fun h1 => ?_) (fun h1 => ?_)
    rotate_left
    · skip
      exact absurd rfl h1
    · skip
      refine lv_iload hx hb dL_law_483 (lv_at hl 1 rfl) ?_
      refine lv_if_ne (tgt := 500) hx hb dL_law_485 (by decide) (fun h2 => ?_) (fun h2 => ?_)
      · skip
        refine lv_goto (tgt := 731) hx hb dL_law_500 (by decide) ?_
        have hl := lv_sub hl [2, 3, 4, 5, 6] rfl
        have hl : lv_has ls 8 [(0, .ref sb), (1, .ref (a 0)), (2, .ref (b 0)), (3, .ref a9), (4, .int (nI (4 * q)))] := hl
        exact nxt _ _ _ _ _ _ _ _ _ ls ⟨σ1, sl1, ks1, ct1, sm1, le1, gr1, ks3, ct3, sm3, le3, gr3, hσ1, hr1, hr3, hP, hD, hS⟩ hl
      · skip
        exact absurd h2 (by decide)
