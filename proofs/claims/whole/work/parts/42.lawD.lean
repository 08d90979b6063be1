set_option maxHeartbeats 4000000 in
set_option maxRecDepth 100000 in
/-- the law at keyAt -/
theorem lc_keyAt {p : Program} {l : Launch} {e : Env} {s : State} {m : MethodId} {below : List Frame} {meth : Method} {c : Code} {dC : Nat → ClassId} {dI : Nat → Nat → Nat} {sb L : Nat} {xs : Nat → Int32} {a : Nat → Nat} {k : Nat → ClassId} {b : Nat → Nat} {d : Nat → ClassId} {a9 : Nat} {k9 : ClassId} (hnt : l.stackTraces = false) (hL : L ≤ 2048) (C0 : lw_At p s m meth c sb L xs) (hT : thrE (fun q : Nat => s.heap.size ≤ q) s s.heap) (hK : va_K (dC, dI) classes (kX k ++ kM d ++ [(k9, .long)]) s) (q : Nat) (hq : 4 * q + 4 ≤ L) (nxt : (∀ (wn mn : Nat) (fk : Nat → Int32) (fa : Nat → Int64) (T : TB) (cd : Int32) (ov : Nat → Int64) (H : Heap) (locs : List Loc) (ls : Array Slot), lwI dC dI a k b d a9 k9 s H locs wn mn fk fa T cd ov → lv_has ls 8 [(0, .ref sb), (1, .ref (a 0)), (2, .ref (b 0)), (3, .ref a9), (4, .int (nI (4 * q)))] → W p l e room_1 s m #[Value.ref sb] below meth c H locs (18 + q + 1) (67055 + 6 * q + 6) (lw_Z below #[Value.ref sb] s) (F0 m 731 ls []))) (wn mn : Nat) (fk : Nat → Int32) (fa : Nat → Int64) (T : TB) (cd : Int32) (ov : Nat → Int64) (H : Heap) (locs : List Loc) (ls : Array Slot) (hI : lwI dC dI a k b d a9 k9 s H locs wn mn fk fa T cd ov) (hl : lv_has ls 8 [(0, .ref sb), (1, .ref (a 0)), (2, .ref (b 0)), (3, .ref a9), (4, .int (nI (4 * q)))]) : W p l e room_1 s m #[Value.ref sb] below meth c H locs (18 + q) (67055 + 6 * q) (lw_Z below #[Value.ref sb] s) (F0 m 529 ls []) := by
  obtain ⟨hx, hb, hr, hml, hown, hts, hX, hbl, hlocks, hgv⟩ := C0
  have hta : ∀ w ∈ wAll, w.before #[Value.ref sb] s = true := fun w h => hts w (wA_tbl h)
  have hown : s.vm.findClass "GroupRowsLaw" = some m.cls := hown
  have hA : ∀ q : Nat, s.heap.size ≤ q → (fun q : Nat => s.heap.size ≤ q) q := fun _ h => h
  have hbA : ¬ (fun q : Nat => s.heap.size ≤ q) sb := Nat.not_le.mpr hbl
  obtain ⟨σ, sl, ks, ct, sm, le, gr, ks2, ct2, sm2, le2, gr2, hσ, hrep, hrep2, hP, hD, hS⟩ := hI
  have hP : va_P (dC, dI) classes ((wX a k (nI wn) (nI mn) (nI T.1) fk fa sl ks ct sm le gr) ++ (wM b d cd (nI wn) (nI mn) (nI T.1) ks2 ct2 sm2 le2 gr2 fk fa) ++ [(a9, .inl (k9, 1, .inr (.inl ov)))]) H := hP
  have hD : va_D (fun q : Nat => s.heap.size ≤ q) ((wX a k (nI wn) (nI mn) (nI T.1) fk fa sl ks ct sm le gr) ++ (wM b d cd (nI wn) (nI mn) (nI T.1) ks2 ct2 sm2 le2 gr2 fk fa) ++ [(a9, .inl (k9, 1, .inr (.inl ov)))]) := hD
  refine lv_aload_n hx hb dL_law_529 rfl (lv_at hl 1 rfl) ?_
  refine lv_aload_n hx hb dL_law_530 rfl (lv_at hl 0 rfl) ?_
  refine lv_iload hx hb dL_law_531 (lv_at hl 4 rfl) ?_
  refine lv_iconst (v := 1) hx hb dL_law_533 (by decide) ?_
  refine lv_iadd hx hb dL_law_534 ?_
  refine gi_as (y := nI ((4 * q) + 1)) (nI_1 _) ?_
  refine va_sld hx hb hX hbl hbA hS (vp_in_nI (n := ((4 * q) + 1)) (by omega) (by omega)) dL_law_535 ?_
  refine gi_as (y := xs ((4 * q) + 1)) (by rw [nI_clamp (by omega)]) ?_
  refine lv_aload_n hx hb dL_law_536 rfl (lv_at hl 0 rfl) ?_
  refine lv_iload hx hb dL_law_537 (lv_at hl 4 rfl) ?_
  refine lv_iconst (v := 2) hx hb dL_law_539 (by decide) ?_
  refine lv_iadd hx hb dL_law_540 ?_
  refine gi_as (y := nI ((4 * q) + 2)) (nI_add _ 2) ?_
  refine va_sld hx hb hX hbl hbA hS (vp_in_nI (n := ((4 * q) + 2)) (by omega) (by omega)) dL_law_541 ?_
  refine gi_as (y := xs ((4 * q) + 2)) (by rw [nI_clamp (by omega)]) ?_
  refine lv_aload_n hx hb dL_law_542 rfl (lv_at hl 3 rfl) ?_
  have hPc := hP.sub (ws' := ((wX a k (nI wn) (nI mn) (nI T.1) fk fa sl ks ct sm le gr) ++ [(a9, .inl (k9, 1, .inr (.inl ov)))])) [0, 1, 2, 3, 4, 5, 6, 7, 8, 17] rfl
  have hDc := hD.sub (ws' := ((wX a k (nI wn) (nI mn) (nI T.1) fk fa sl ks ct sm le gr) ++ [(a9, .inl (k9, 1, .inr (.inl ov)))])) [0, 1, 2, 3, 4, 5, 6, 7, 8, 17] (by decide) rfl
  have hKc := hK.sub (tys' := ((kX k) ++ [(k9, .long)])) [0, 1, 2, 3, 4, 5, 6, 7, 15] rfl
  have hFc := va_free (wc := ((wX a k (nI wn) (nI mn) (nI T.1) fk fa sl ks ct sm le gr) ++ [(a9, .inl (k9, 1, .inr (.inl ov)))])) hD hS hA [0, 1, 2, 3, 4, 5, 6, 7, 8, 17] rfl
  refine va_calli (vx_runSW (As := [.ref (a 0), .int (xs ((4 * q) + 1)), .int (xs ((4 * q) + 2)), .ref a9]) (rest := []) ⟨hx, hb, hml, hown, hta⟩ (c_LkeyAt l hnt dC dI a k wn mn fk fa T σ sl ks ct sm le gr hσ hrep a9 k9 ov (xs ((4 * q) + 1)) (xs ((4 * q) + 2)) H.size) (vx_cwSW 4 hta (gSW w245 w246 w0 w247) rfl rfl rfl (by decide +kernel) ⟨Nat.le_of_ble_eq_true rfl, Nat.le_of_ble_eq_true rfl⟩) ⟨gb_X, fun U hU hW => ⟨rfl, by rw [hU], by rw [hU]; exact hPc, va_K.moved hW.alike hKc, hDc.weaken (fun _ _ _ _ => trivial), by rw [hU]; exact ((thrE.warm hW hT).kept hS.2.1).narrow hFc⟩⟩ rfl rfl hl.1 rfl (lv_room (Nat.le_of_ble_eq_true rfl)) dL_law_543 ⟨by show 18 + q + 1 ≤ 1056; omega, by show 67055 + 6 * q + 6 ≤ 75331; omega⟩) hS (fun q _ h => hFc q h) hFc (fun r_9 u t H1 locs ht hvm hw hB hz1 hk1 hS => ?_)
  by_cases hLg : (0 ≤ (xs ((4 * q) + 1)) ∧ (xs ((4 * q) + 1)) < nI T.1) ∧ 0 ≤ (xs ((4 * q) + 2)) ∧ (xs ((4 * q) + 2)) < nI wn
  · skip
    rw [if_pos hLg] at hw
    subst hw
    obtain ⟨σ1, sl1, ks1, ct1, sm1, le1, gr1, ⟨hσ1, hr1⟩, hP1, hK1, hD1⟩ := hB.1 hLg
    rw [ht] at hP1
    obtain ⟨hP, hD⟩ := va_join (wr := (wM b d cd (nI wn) (nI mn) (nI T.1) ks2 ct2 sm2 le2 gr2 fk fa)) (w1 := ((wX a k (nI wn) (nI mn) (nI T.1) fk fa sl1 ks1 ct1 sm1 le1 gr1) ++ [(a9, .inl (k9, 1, .inr (.inl (vp_updL ov 0 (T.2.1 (xs ((4 * q) + 1)).toNatClampNeg (xs ((4 * q) + 2)).toNatClampNeg).toInt64))))])) hP hD [0, 1, 2, 3, 4, 5, 6, 7, 8, 17] [9, 10, 11, 12, 13, 14, 15, 16] rfl rfl (by decide) (by decide) hk1 hFc hP1 hD1
    have hP := hP.sub (ws' := ((wX a k (nI wn) (nI mn) (nI T.1) fk fa sl1 ks1 ct1 sm1 le1 gr1) ++ (wM b d cd (nI wn) (nI mn) (nI T.1) ks2 ct2 sm2 le2 gr2 fk fa) ++ [(a9, .inl (k9, 1, .inr (.inl (vp_updL ov 0 (T.2.1 (xs ((4 * q) + 1)).toNatClampNeg (xs ((4 * q) + 2)).toNatClampNeg).toInt64))))])) [8, 9, 10, 11, 12, 13, 14, 15, 16, 0, 1, 2, 3, 4, 5, 6, 7, 17] rfl
    have hD := hD.sub (ws' := ((wX a k (nI wn) (nI mn) (nI T.1) fk fa sl1 ks1 ct1 sm1 le1 gr1) ++ (wM b d cd (nI wn) (nI mn) (nI T.1) ks2 ct2 sm2 le2 gr2 fk fa) ++ [(a9, .inl (k9, 1, .inr (.inl (vp_updL ov 0 (T.2.1 (xs ((4 * q) + 1)).toNatClampNeg (xs ((4 * q) + 2)).toNatClampNeg).toInt64))))])) [8, 9, 10, 11, 12, 13, 14, 15, 16, 0, 1, 2, 3, 4, 5, 6, 7, 17] (by decide) rfl
    have hP : va_P (dC, dI) classes ((wX a k (nI wn) (nI mn) (nI T.1) fk fa sl1 ks1 ct1 sm1 le1 gr1) ++ (wM b d cd (nI wn) (nI mn) (nI T.1) ks2 ct2 sm2 le2 gr2 fk fa) ++ [(a9, .inl (k9, 1, .inr (.inl (vp_updL ov 0 (T.2.1 (xs ((4 * q) + 1)).toNatClampNeg (xs ((4 * q) + 2)).toNatClampNeg).toInt64))))]) H1 := hP
    have hD : va_D (fun q : Nat => s.heap.size ≤ q) ((wX a k (nI wn) (nI mn) (nI T.1) fk fa sl1 ks1 ct1 sm1 le1 gr1) ++ (wM b d cd (nI wn) (nI mn) (nI T.1) ks2 ct2 sm2 le2 gr2 fk fa) ++ [(a9, .inl (k9, 1, .inr (.inl (vp_updL ov 0 (T.2.1 (xs ((4 * q) + 1)).toNatClampNeg (xs ((4 * q) + 2)).toNatClampNeg).toInt64))))]) := hD
    generalize H1 = H at hP hS ⊢
    have hP : va_P (dC, dI) classes ((wX a k (nI wn) (nI mn) (nI T.1) fk fa sl1 ks1 ct1 sm1 le1 gr1) ++ (wM b d cd (nI wn) (nI mn) (nI T.1) ks2 ct2 sm2 le2 gr2 fk fa) ++ [(a9, .inl (k9, 1, .inr (.inl (vp_updL ov 0 (T.2.1 (xs ((4 * q) + 1)).toNatClampNeg (xs ((4 * q) + 2)).toNatClampNeg).toInt64))))]) H := hP
    have hD : va_D (fun q : Nat => s.heap.size ≤ q) ((wX a k (nI wn) (nI mn) (nI T.1) fk fa sl1 ks1 ct1 sm1 le1 gr1) ++ (wM b d cd (nI wn) (nI mn) (nI T.1) ks2 ct2 sm2 le2 gr2 fk fa) ++ [(a9, .inl (k9, 1, .inr (.inl (vp_updL ov 0 (T.2.1 (xs ((4 * q) + 1)).toNatClampNeg (xs ((4 * q) + 2)).toNatClampNeg).toInt64))))]) := hD
    show W p l e room_1 s m #[Value.ref sb] below meth c H locs (18 + q + 1) (67055 + 6 * q + 6) (lw_Z below #[Value.ref sb] s) (F0 m 546 ls [.int 0])
    refine lv_istore (lv' := [(5, .int 0), (0, .ref sb), (1, .ref (a 0)), (2, .ref (b 0)), (3, .ref a9), (4, .int (nI (4 * q)))]) hx hb dL_law_546 hl (by decide) rfl (fun ls hl => ?_)
    refine lv_aload_n hx hb dL_law_548 rfl (lv_at hl 3 rfl) ?_
    refine lv_aload_n hx hb dL_law_549 rfl (lv_at hl 1 rfl) ?_
    refine lv_iload hx hb dL_law_550 (lv_at hl 5 rfl) ?_
    refine lv_iconst (v := 1) hx hb dL_law_552 (by decide) ?_
    refine lv_iadd hx hb dL_law_553 ?_
    refine gi_as (y := nI ((4 * q) + 1)) (nI_1 _) ?_
    refine va_sld hx hb hX hbl hbA hS (vp_in_nI (n := ((4 * q) + 1)) (by omega) (by omega)) dL_law_554 ?_
    refine gi_as (y := xs ((4 * q) + 1)) (by rw [nI_clamp (by omega)]) ?_
    refine lv_aload_n hx hb dL_law_555 rfl (lv_at hl 1 rfl) ?_
    refine lv_iload hx hb dL_law_556 (lv_at hl 5 rfl) ?_
    refine lv_iconst (v := 2) hx hb dL_law_558 (by decide) ?_
    refine lv_iadd hx hb dL_law_559 ?_
    refine gi_as (y := nI ((4 * q) + 2)) (nI_add _ 2) ?_
    refine va_sld hx hb hX hbl hbA hS (vp_in_nI (n := ((4 * q) + 2)) (by omega) (by omega)) dL_law_560 ?_
    refine gi_as (y := xs ((4 * q) + 2)) (by rw [nI_clamp (by omega)]) ?_
    have hPc := hP.sub (ws' := (wM b d cd (nI wn) (nI mn) (nI T.1) ks2 ct2 sm2 le2 gr2 fk fa)) [9, 10, 11, 12, 13, 14, 15, 16] rfl
    have hDc := hD.sub (ws' := (wM b d cd (nI wn) (nI mn) (nI T.1) ks2 ct2 sm2 le2 gr2 fk fa)) [9, 10, 11, 12, 13, 14, 15, 16] (by decide) rfl
    have hKc := hK.sub (tys' := (kM d)) [8, 9, 10, 11, 12, 13, 14] rfl
    have hFc := va_free (wc := (wM b d cd (nI wn) (nI mn) (nI T.1) ks2 ct2 sm2 le2 gr2 fk fa)) hD hS hA [9, 10, 11, 12, 13, 14, 15, 16] rfl
    refine va_calli (va_runV (As := [.int (xs ((4 * q) + 1)), .int (xs ((4 * q) + 2))]) (rest := []) ⟨hx, hb, hml, hown, hta⟩ (c_MkeyAt l dC dI b d cd wn mn fk fa T ks2 ct2 sm2 le2 gr2 hrep2 (xs ((4 * q) + 1)) (xs ((4 * q) + 2)) H.size) (cwV 2 hta (gV w382 w383 w384 w2 w385) rfl rfl rfl (by decide +kernel) ⟨Nat.le_of_ble_eq_true rfl, Nat.le_of_ble_eq_true rfl⟩) ⟨gb_W, va_recv hKc hPc (ci := 1) (q0 := 0) rfl rfl, fun U hU hW => ⟨rfl, by rw [hU], by rw [hU]; exact hPc, va_K.moved hW.alike hKc, hDc.weaken (fun _ _ _ _ => trivial)⟩⟩ rfl rfl hl.1 rfl (lv_room (Nat.le_of_ble_eq_true rfl)) dL_law_561 ⟨by show 18 + q + 1 + 0 ≤ 1056; omega, by show 67055 + 6 * q + 6 + 0 ≤ 75331; omega⟩) hS (fun q _ h => hFc q h) hFc (fun r_8 u2 t H1 locs ht hvm hw2 hB2 hz1 hk1 hS => ?_)
    rw [if_pos hLg] at hw2
    subst hw2
    obtain ⟨ks3, ct3, sm3, le3, gr3, hr3, hP1, hK1, hD1⟩ := hB2.1 hLg
    rw [ht] at hP1
    obtain ⟨hP, hD⟩ := va_join (wr := ((wX a k (nI wn) (nI mn) (nI T.1) fk fa sl1 ks1 ct1 sm1 le1 gr1) ++ [(a9, .inl (k9, 1, .inr (.inl (vp_updL ov 0 (T.2.1 (xs ((4 * q) + 1)).toNatClampNeg (xs ((4 * q) + 2)).toNatClampNeg).toInt64))))])) (w1 := (wM b d 0 (nI wn) (nI mn) (nI T.1) ks3 ct3 sm3 le3 gr3 fk fa)) hP hD [9, 10, 11, 12, 13, 14, 15, 16] [0, 1, 2, 3, 4, 5, 6, 7, 8, 17] rfl rfl (by decide) (by decide) hk1 hFc hP1 hD1
    have hP := hP.sub (ws' := ((wX a k (nI wn) (nI mn) (nI T.1) fk fa sl1 ks1 ct1 sm1 le1 gr1) ++ (wM b d 0 (nI wn) (nI mn) (nI T.1) ks3 ct3 sm3 le3 gr3 fk fa) ++ [(a9, .inl (k9, 1, .inr (.inl (vp_updL ov 0 (T.2.1 (xs ((4 * q) + 1)).toNatClampNeg (xs ((4 * q) + 2)).toNatClampNeg).toInt64))))])) [0, 1, 2, 3, 4, 5, 6, 7, 8, 10, 11, 12, 13, 14, 15, 16, 17, 9] rfl
    have hD := hD.sub (ws' := ((wX a k (nI wn) (nI mn) (nI T.1) fk fa sl1 ks1 ct1 sm1 le1 gr1) ++ (wM b d 0 (nI wn) (nI mn) (nI T.1) ks3 ct3 sm3 le3 gr3 fk fa) ++ [(a9, .inl (k9, 1, .inr (.inl (vp_updL ov 0 (T.2.1 (xs ((4 * q) + 1)).toNatClampNeg (xs ((4 * q) + 2)).toNatClampNeg).toInt64))))])) [0, 1, 2, 3, 4, 5, 6, 7, 8, 10, 11, 12, 13, 14, 15, 16, 17, 9] (by decide) rfl
    have hP : va_P (dC, dI) classes ((wX a k (nI wn) (nI mn) (nI T.1) fk fa sl1 ks1 ct1 sm1 le1 gr1) ++ (wM b d 0 (nI wn) (nI mn) (nI T.1) ks3 ct3 sm3 le3 gr3 fk fa) ++ [(a9, .inl (k9, 1, .inr (.inl (vp_updL ov 0 (T.2.1 (xs ((4 * q) + 1)).toNatClampNeg (xs ((4 * q) + 2)).toNatClampNeg).toInt64))))]) H1 := hP
    have hD : va_D (fun q : Nat => s.heap.size ≤ q) ((wX a k (nI wn) (nI mn) (nI T.1) fk fa sl1 ks1 ct1 sm1 le1 gr1) ++ (wM b d 0 (nI wn) (nI mn) (nI T.1) ks3 ct3 sm3 le3 gr3 fk fa) ++ [(a9, .inl (k9, 1, .inr (.inl (vp_updL ov 0 (T.2.1 (xs ((4 * q) + 1)).toNatClampNeg (xs ((4 * q) + 2)).toNatClampNeg).toInt64))))]) := hD
    generalize H1 = H at hP hS ⊢
    have hP : va_P (dC, dI) classes ((wX a k (nI wn) (nI mn) (nI T.1) fk fa sl1 ks1 ct1 sm1 le1 gr1) ++ (wM b d 0 (nI wn) (nI mn) (nI T.1) ks3 ct3 sm3 le3 gr3 fk fa) ++ [(a9, .inl (k9, 1, .inr (.inl (vp_updL ov 0 (T.2.1 (xs ((4 * q) + 1)).toNatClampNeg (xs ((4 * q) + 2)).toNatClampNeg).toInt64))))]) H := hP
    have hD : va_D (fun q : Nat => s.heap.size ≤ q) ((wX a k (nI wn) (nI mn) (nI T.1) fk fa sl1 ks1 ct1 sm1 le1 gr1) ++ (wM b d 0 (nI wn) (nI mn) (nI T.1) ks3 ct3 sm3 le3 gr3 fk fa) ++ [(a9, .inl (k9, 1, .inr (.inl (vp_updL ov 0 (T.2.1 (xs ((4 * q) + 1)).toNatClampNeg (xs ((4 * q) + 2)).toNatClampNeg).toInt64))))]) := hD
    show W p l e room_1 s m #[Value.ref sb] below meth c H locs (18 + q + 1 + 0) (67055 + 6 * q + 6 + 0) (lw_Z below #[Value.ref sb] s) (F0 m 564 ls [.int (T.2.1 (xs ((4 * q) + 1)).toNatClampNeg (xs ((4 * q) + 2)).toNatClampNeg)])
    refine lv_istore (lv' := [(6, .int (T.2.1 (xs ((4 * q) + 1)).toNatClampNeg (xs ((4 * q) + 2)).toNatClampNeg)), (5, .int 0), (0, .ref sb), (1, .ref (a 0)), (2, .ref (b 0)), (3, .ref a9), (4, .int (nI (4 * q)))]) hx hb dL_law_564 hl (by decide) rfl (fun ls hl => ?_)
    refine lv_aload_n hx hb dL_law_566 rfl (lv_at hl 4 rfl) ?_
    refine gi_callR (v := .int 0) (W.runV (As := []) (rest := []) ⟨hx, hb, hml, hown, hta⟩ (c_thrown l dC dI b d 0 (nI wn) (nI mn) (nI T.1) ks3 ct3 sm3 le3 gr3 fk fa) (cwV 0 hta (gV w312 w313 w314 w2 w315) rfl rfl rfl (by decide +kernel) ⟨Nat.le_of_ble_eq_true rfl, Nat.le_of_ble_eq_true rfl⟩) ⟨gb_R, va_recv hK hP (ci := 1) (q0 := 9) rfl rfl, fun U hU hW => ⟨rfl, by rw [hU]; exact hP.sub (ws' := (wM b d 0 (nI wn) (nI mn) (nI T.1) ks3 ct3 sm3 le3 gr3 fk fa)) [9, 10, 11, 12, 13, 14, 15, 16] rfl, va_K.moved hW.alike (hK.sub (tys' := kM d) [8, 9, 10, 11, 12, 13, 14] rfl)⟩⟩ rfl rfl hl.1 rfl (lv_room (Nat.le_of_ble_eq_true rfl)) dL_law_567 ⟨by show 18 + q + 1 + 0 ≤ 1056; omega, by show 67055 + 6 * q + 6 + 0 ≤ 75331; omega⟩) ?_
    refine lv_iload hx hb dL_law_570 (lv_at hl 1 rfl) ?_
    refine lv_icmp_eq (tgt := 577) hx hb dL_law_572 (by decide) (fun h1 => ?_) (fun h1 => ?_)
    rotate_left
    · skip
      exact absurd rfl h1
    · skip
      refine lv_iload hx hb dL_law_577 (lv_at hl 1 rfl) ?_
      refine lv_if_ne (tgt := 594) hx hb dL_law_579 (by decide) (fun h2 => ?_) (fun h2 => ?_)
      · skip
        exact absurd rfl h2
      · skip
        refine lv_aload_n hx hb dL_law_582 rfl (lv_at hl 5 rfl) ?_
        refine lv_iconst (v := 0) hx hb dL_law_583 (by decide) ?_
        refine gi_as (y := nI 0) (nI_0.symm) ?_
        refine gi_lald hx hb hK hP 17 15 rfl rfl (k := 0) (by omega) (by decide) dL_law_584 ?_
        refine gi_asl (y := (T.2.1 (xs ((4 * q) + 1)).toNatClampNeg (xs ((4 * q) + 2)).toNatClampNeg).toInt64) (pk_uLs) ?_
        refine lv_iload hx hb dL_law_585 (lv_at hl 0 rfl) ?_
        refine lv_i2l (v := (T.2.1 (xs ((4 * q) + 1)).toNatClampNeg (xs ((4 * q) + 2)).toNatClampNeg).toInt64) hx hb dL_law_587 rfl ?_
        refine W.lcmp (x := ((T.2.1 (xs ((4 * q) + 1)).toNatClampNeg (xs ((4 * q) + 2)).toNatClampNeg).toInt64)) (y := ((T.2.1 (xs ((4 * q) + 1)).toNatClampNeg (xs ((4 * q) + 2)).toNatClampNeg).toInt64)) hx hb dL_law_588 ?_
        refine lv_if_eq (tgt := 594) hx hb dL_law_589 (by decide) (fun h3 => ?_) (fun h3 => ?_)
        · skip
          refine lv_goto (tgt := 731) hx hb dL_law_594 (by decide) ?_
          have hl := lv_sub hl [2, 3, 4, 5, 6] rfl
          have hl : lv_has ls 8 [(0, .ref sb), (1, .ref (a 0)), (2, .ref (b 0)), (3, .ref a9), (4, .int (nI (4 * q)))] := hl
          exact nxt _ _ _ _ _ _ _ _ _ ls ⟨σ1, sl1, ks1, ct1, sm1, le1, gr1, ks3, ct3, sm3, le3, gr3, hσ1, hr1, hr3, hP, hD, hS⟩ hl
        · skip
          exact absurd ((lg_cmp_eq _ _).mpr rfl) h3
  · skip
    rw [if_neg hLg] at hw
    subst hw
    obtain ⟨σ1, sl1, ks1, ct1, sm1, le1, gr1, ⟨hσ1, hr1⟩, hP1, hK1, hD1⟩ := hB.2 hLg
    rw [ht] at hP1
    obtain ⟨hP, hD⟩ := va_join (wr := (wM b d cd (nI wn) (nI mn) (nI T.1) ks2 ct2 sm2 le2 gr2 fk fa)) (w1 := ((wX a k (nI wn) (nI mn) (nI T.1) fk fa sl1 ks1 ct1 sm1 le1 gr1) ++ [(a9, .inl (k9, 1, .inr (.inl ov)))])) hP hD [0, 1, 2, 3, 4, 5, 6, 7, 8, 17] [9, 10, 11, 12, 13, 14, 15, 16] rfl rfl (by decide) (by decide) hk1 hFc hP1 hD1
    have hP := hP.sub (ws' := ((wX a k (nI wn) (nI mn) (nI T.1) fk fa sl1 ks1 ct1 sm1 le1 gr1) ++ (wM b d cd (nI wn) (nI mn) (nI T.1) ks2 ct2 sm2 le2 gr2 fk fa) ++ [(a9, .inl (k9, 1, .inr (.inl ov)))])) [8, 9, 10, 11, 12, 13, 14, 15, 16, 0, 1, 2, 3, 4, 5, 6, 7, 17] rfl
    have hD := hD.sub (ws' := ((wX a k (nI wn) (nI mn) (nI T.1) fk fa sl1 ks1 ct1 sm1 le1 gr1) ++ (wM b d cd (nI wn) (nI mn) (nI T.1) ks2 ct2 sm2 le2 gr2 fk fa) ++ [(a9, .inl (k9, 1, .inr (.inl ov)))])) [8, 9, 10, 11, 12, 13, 14, 15, 16, 0, 1, 2, 3, 4, 5, 6, 7, 17] (by decide) rfl
    have hP : va_P (dC, dI) classes ((wX a k (nI wn) (nI mn) (nI T.1) fk fa sl1 ks1 ct1 sm1 le1 gr1) ++ (wM b d cd (nI wn) (nI mn) (nI T.1) ks2 ct2 sm2 le2 gr2 fk fa) ++ [(a9, .inl (k9, 1, .inr (.inl ov)))]) H1 := hP
    have hD : va_D (fun q : Nat => s.heap.size ≤ q) ((wX a k (nI wn) (nI mn) (nI T.1) fk fa sl1 ks1 ct1 sm1 le1 gr1) ++ (wM b d cd (nI wn) (nI mn) (nI T.1) ks2 ct2 sm2 le2 gr2 fk fa) ++ [(a9, .inl (k9, 1, .inr (.inl ov)))]) := hD
    generalize H1 = H at hP hS ⊢
    have hP : va_P (dC, dI) classes ((wX a k (nI wn) (nI mn) (nI T.1) fk fa sl1 ks1 ct1 sm1 le1 gr1) ++ (wM b d cd (nI wn) (nI mn) (nI T.1) ks2 ct2 sm2 le2 gr2 fk fa) ++ [(a9, .inl (k9, 1, .inr (.inl ov)))]) H := hP
    have hD : va_D (fun q : Nat => s.heap.size ≤ q) ((wX a k (nI wn) (nI mn) (nI T.1) fk fa sl1 ks1 ct1 sm1 le1 gr1) ++ (wM b d cd (nI wn) (nI mn) (nI T.1) ks2 ct2 sm2 le2 gr2 fk fa) ++ [(a9, .inl (k9, 1, .inr (.inl ov)))]) := hD
    show W p l e room_1 s m #[Value.ref sb] below meth c H locs (18 + q + 1) (67055 + 6 * q + 6) (lw_Z below #[Value.ref sb] s) (F0 m 546 ls [.int 1])
    refine lv_istore (lv' := [(5, .int 1), (0, .ref sb), (1, .ref (a 0)), (2, .ref (b 0)), (3, .ref a9), (4, .int (nI (4 * q)))]) hx hb dL_law_546 hl (by decide) rfl (fun ls hl => ?_)
    refine lv_aload_n hx hb dL_law_548 rfl (lv_at hl 3 rfl) ?_
    refine lv_aload_n hx hb dL_law_549 rfl (lv_at hl 1 rfl) ?_
    refine lv_iload hx hb dL_law_550 (lv_at hl 5 rfl) ?_
    refine lv_iconst (v := 1) hx hb dL_law_552 (by decide) ?_
    refine lv_iadd hx hb dL_law_553 ?_
    refine gi_as (y := nI ((4 * q) + 1)) (nI_1 _) ?_
    refine va_sld hx hb hX hbl hbA hS (vp_in_nI (n := ((4 * q) + 1)) (by omega) (by omega)) dL_law_554 ?_
    refine gi_as (y := xs ((4 * q) + 1)) (by rw [nI_clamp (by omega)]) ?_
    refine lv_aload_n hx hb dL_law_555 rfl (lv_at hl 1 rfl) ?_
    refine lv_iload hx hb dL_law_556 (lv_at hl 5 rfl) ?_
    refine lv_iconst (v := 2) hx hb dL_law_558 (by decide) ?_
    refine lv_iadd hx hb dL_law_559 ?_
    refine gi_as (y := nI ((4 * q) + 2)) (nI_add _ 2) ?_
    refine va_sld hx hb hX hbl hbA hS (vp_in_nI (n := ((4 * q) + 2)) (by omega) (by omega)) dL_law_560 ?_
    refine gi_as (y := xs ((4 * q) + 2)) (by rw [nI_clamp (by omega)]) ?_
    have hPc := hP.sub (ws' := (wM b d cd (nI wn) (nI mn) (nI T.1) ks2 ct2 sm2 le2 gr2 fk fa)) [9, 10, 11, 12, 13, 14, 15, 16] rfl
    have hDc := hD.sub (ws' := (wM b d cd (nI wn) (nI mn) (nI T.1) ks2 ct2 sm2 le2 gr2 fk fa)) [9, 10, 11, 12, 13, 14, 15, 16] (by decide) rfl
    have hKc := hK.sub (tys' := (kM d)) [8, 9, 10, 11, 12, 13, 14] rfl
    have hFc := va_free (wc := (wM b d cd (nI wn) (nI mn) (nI T.1) ks2 ct2 sm2 le2 gr2 fk fa)) hD hS hA [9, 10, 11, 12, 13, 14, 15, 16] rfl
    refine va_calli (va_runV (As := [.int (xs ((4 * q) + 1)), .int (xs ((4 * q) + 2))]) (rest := []) ⟨hx, hb, hml, hown, hta⟩ (c_MkeyAt l dC dI b d cd wn mn fk fa T ks2 ct2 sm2 le2 gr2 hrep2 (xs ((4 * q) + 1)) (xs ((4 * q) + 2)) H.size) (cwV 2 hta (gV w382 w383 w384 w2 w385) rfl rfl rfl (by decide +kernel) ⟨Nat.le_of_ble_eq_true rfl, Nat.le_of_ble_eq_true rfl⟩) ⟨gb_W, va_recv hKc hPc (ci := 1) (q0 := 0) rfl rfl, fun U hU hW => ⟨rfl, by rw [hU], by rw [hU]; exact hPc, va_K.moved hW.alike hKc, hDc.weaken (fun _ _ _ _ => trivial)⟩⟩ rfl rfl hl.1 rfl (lv_room (Nat.le_of_ble_eq_true rfl)) dL_law_561 ⟨by show 18 + q + 1 + 0 ≤ 1056; omega, by show 67055 + 6 * q + 6 + 0 ≤ 75331; omega⟩) hS (fun q _ h => hFc q h) hFc (fun r_8 u2 t H1 locs ht hvm hw2 hB2 hz1 hk1 hS => ?_)
    rw [if_neg hLg] at hw2
    subst hw2
    obtain ⟨ks3, ct3, sm3, le3, gr3, hr3, hP1, hK1, hD1⟩ := hB2.2 hLg
    rw [ht] at hP1
    obtain ⟨hP, hD⟩ := va_join (wr := ((wX a k (nI wn) (nI mn) (nI T.1) fk fa sl1 ks1 ct1 sm1 le1 gr1) ++ [(a9, .inl (k9, 1, .inr (.inl ov)))])) (w1 := (wM b d 1 (nI wn) (nI mn) (nI T.1) ks3 ct3 sm3 le3 gr3 fk fa)) hP hD [9, 10, 11, 12, 13, 14, 15, 16] [0, 1, 2, 3, 4, 5, 6, 7, 8, 17] rfl rfl (by decide) (by decide) hk1 hFc hP1 hD1
    have hP := hP.sub (ws' := ((wX a k (nI wn) (nI mn) (nI T.1) fk fa sl1 ks1 ct1 sm1 le1 gr1) ++ (wM b d 1 (nI wn) (nI mn) (nI T.1) ks3 ct3 sm3 le3 gr3 fk fa) ++ [(a9, .inl (k9, 1, .inr (.inl ov)))])) [0, 1, 2, 3, 4, 5, 6, 7, 8, 10, 11, 12, 13, 14, 15, 16, 17, 9] rfl
    have hD := hD.sub (ws' := ((wX a k (nI wn) (nI mn) (nI T.1) fk fa sl1 ks1 ct1 sm1 le1 gr1) ++ (wM b d 1 (nI wn) (nI mn) (nI T.1) ks3 ct3 sm3 le3 gr3 fk fa) ++ [(a9, .inl (k9, 1, .inr (.inl ov)))])) [0, 1, 2, 3, 4, 5, 6, 7, 8, 10, 11, 12, 13, 14, 15, 16, 17, 9] (by decide) rfl
    have hP : va_P (dC, dI) classes ((wX a k (nI wn) (nI mn) (nI T.1) fk fa sl1 ks1 ct1 sm1 le1 gr1) ++ (wM b d 1 (nI wn) (nI mn) (nI T.1) ks3 ct3 sm3 le3 gr3 fk fa) ++ [(a9, .inl (k9, 1, .inr (.inl ov)))]) H1 := hP
    have hD : va_D (fun q : Nat => s.heap.size ≤ q) ((wX a k (nI wn) (nI mn) (nI T.1) fk fa sl1 ks1 ct1 sm1 le1 gr1) ++ (wM b d 1 (nI wn) (nI mn) (nI T.1) ks3 ct3 sm3 le3 gr3 fk fa) ++ [(a9, .inl (k9, 1, .inr (.inl ov)))]) := hD
    generalize H1 = H at hP hS ⊢
    have hP : va_P (dC, dI) classes ((wX a k (nI wn) (nI mn) (nI T.1) fk fa sl1 ks1 ct1 sm1 le1 gr1) ++ (wM b d 1 (nI wn) (nI mn) (nI T.1) ks3 ct3 sm3 le3 gr3 fk fa) ++ [(a9, .inl (k9, 1, .inr (.inl ov)))]) H := hP
    have hD : va_D (fun q : Nat => s.heap.size ≤ q) ((wX a k (nI wn) (nI mn) (nI T.1) fk fa sl1 ks1 ct1 sm1 le1 gr1) ++ (wM b d 1 (nI wn) (nI mn) (nI T.1) ks3 ct3 sm3 le3 gr3 fk fa) ++ [(a9, .inl (k9, 1, .inr (.inl ov)))]) := hD
    show W p l e room_1 s m #[Value.ref sb] below meth c H locs (18 + q + 1 + 0) (67055 + 6 * q + 6 + 0) (lw_Z below #[Value.ref sb] s) (F0 m 564 ls [.int 0])
    refine lv_istore (lv' := [(6, .int 0), (5, .int 1), (0, .ref sb), (1, .ref (a 0)), (2, .ref (b 0)), (3, .ref a9), (4, .int (nI (4 * q)))]) hx hb dL_law_564 hl (by decide) rfl (fun ls hl => ?_)
    refine lv_aload_n hx hb dL_law_566 rfl (lv_at hl 4 rfl) ?_
    refine gi_callR (v := .int 1) (W.runV (As := []) (rest := []) ⟨hx, hb, hml, hown, hta⟩ (c_thrown l dC dI b d 1 (nI wn) (nI mn) (nI T.1) ks3 ct3 sm3 le3 gr3 fk fa) (cwV 0 hta (gV w312 w313 w314 w2 w315) rfl rfl rfl (by decide +kernel) ⟨Nat.le_of_ble_eq_true rfl, Nat.le_of_ble_eq_true rfl⟩) ⟨gb_R, va_recv hK hP (ci := 1) (q0 := 9) rfl rfl, fun U hU hW => ⟨rfl, by rw [hU]; exact hP.sub (ws' := (wM b d 1 (nI wn) (nI mn) (nI T.1) ks3 ct3 sm3 le3 gr3 fk fa)) [9, 10, 11, 12, 13, 14, 15, 16] rfl, va_K.moved hW.alike (hK.sub (tys' := kM d) [8, 9, 10, 11, 12, 13, 14] rfl)⟩⟩ rfl rfl hl.1 rfl (lv_room (Nat.le_of_ble_eq_true rfl)) dL_law_567 ⟨by show 18 + q + 1 + 0 ≤ 1056; omega, by show 67055 + 6 * q + 6 + 0 ≤ 75331; omega⟩) ?_
    refine lv_iload hx hb dL_law_570 (lv_at hl 1 rfl) ?_
    refine lv_icmp_eq (tgt := 577) hx hb dL_law_572 (by decide) (fun h1 => ?_) (fun h1 => ?_)
    rotate_left
    · skip
      exact absurd rfl h1
    · skip
      refine lv_iload hx hb dL_law_577 (lv_at hl 1 rfl) ?_
      refine lv_if_ne (tgt := 594) hx hb dL_law_579 (by decide) (fun h2 => ?_) (fun h2 => ?_)
      · skip
        refine lv_goto (tgt := 731) hx hb dL_law_594 (by decide) ?_
        have hl := lv_sub hl [2, 3, 4, 5, 6] rfl
        have hl : lv_has ls 8 [(0, .ref sb), (1, .ref (a 0)), (2, .ref (b 0)), (3, .ref a9), (4, .int (nI (4 * q)))] := hl
        exact nxt _ _ _ _ _ _ _ _ _ ls ⟨σ1, sl1, ks1, ct1, sm1, le1, gr1, ks3, ct3, sm3, le3, gr3, hσ1, hr1, hr3, hP, hD, hS⟩ hl
      · skip
        exact absurd h2 (by decide)
set_option maxHeartbeats 4000000 in
set_option maxRecDepth 100000 in
/-- the law at count -/
theorem lc_count {p : Program} {l : Launch} {e : Env} {s : State} {m : MethodId} {below : List Frame} {meth : Method} {c : Code} {dC : Nat → ClassId} {dI : Nat → Nat → Nat} {sb L : Nat} {xs : Nat → Int32} {a : Nat → Nat} {k : Nat → ClassId} {b : Nat → Nat} {d : Nat → ClassId} {a9 : Nat} {k9 : ClassId} (hnt : l.stackTraces = false) (hL : L ≤ 2048) (C0 : lw_At p s m meth c sb L xs) (hT : thrE (fun q : Nat => s.heap.size ≤ q) s s.heap) (hK : va_K (dC, dI) classes (kX k ++ kM d ++ [(k9, .long)]) s) (q : Nat) (hq : 4 * q + 4 ≤ L) (nxt : (∀ (wn mn : Nat) (fk : Nat → Int32) (fa : Nat → Int64) (T : TB) (cd : Int32) (ov : Nat → Int64) (H : Heap) (locs : List Loc) (ls : Array Slot), lwI dC dI a k b d a9 k9 s H locs wn mn fk fa T cd ov → lv_has ls 8 [(0, .ref sb), (1, .ref (a 0)), (2, .ref (b 0)), (3, .ref a9), (4, .int (nI (4 * q)))] → W p l e room_1 s m #[Value.ref sb] below meth c H locs (18 + q + 1) (67055 + 6 * q + 6) (lw_Z below #[Value.ref sb] s) (F0 m 731 ls []))) (wn mn : Nat) (fk : Nat → Int32) (fa : Nat → Int64) (T : TB) (cd : Int32) (ov : Nat → Int64) (H : Heap) (locs : List Loc) (ls : Array Slot) (hI : lwI dC dI a k b d a9 k9 s H locs wn mn fk fa T cd ov) (hl : lv_has ls 8 [(0, .ref sb), (1, .ref (a 0)), (2, .ref (b 0)), (3, .ref a9), (4, .int (nI (4 * q)))]) : W p l e room_1 s m #[Value.ref sb] below meth c H locs (18 + q) (67055 + 6 * q) (lw_Z below #[Value.ref sb] s) (F0 m 597 ls []) := by
  obtain ⟨hx, hb, hr, hml, hown, hts, hX, hbl, hlocks, hgv⟩ := C0
  have hta : ∀ w ∈ wAll, w.before #[Value.ref sb] s = true := fun w h => hts w (wA_tbl h)
  have hown : s.vm.findClass "GroupRowsLaw" = some m.cls := hown
  have hA : ∀ q : Nat, s.heap.size ≤ q → (fun q : Nat => s.heap.size ≤ q) q := fun _ h => h
  have hbA : ¬ (fun q : Nat => s.heap.size ≤ q) sb := Nat.not_le.mpr hbl
  obtain ⟨σ, sl, ks, ct, sm, le, gr, ks2, ct2, sm2, le2, gr2, hσ, hrep, hrep2, hP, hD, hS⟩ := hI
  have hP : va_P (dC, dI) classes ((wX a k (nI wn) (nI mn) (nI T.1) fk fa sl ks ct sm le gr) ++ (wM b d cd (nI wn) (nI mn) (nI T.1) ks2 ct2 sm2 le2 gr2 fk fa) ++ [(a9, .inl (k9, 1, .inr (.inl ov)))]) H := hP
  have hD : va_D (fun q : Nat => s.heap.size ≤ q) ((wX a k (nI wn) (nI mn) (nI T.1) fk fa sl ks ct sm le gr) ++ (wM b d cd (nI wn) (nI mn) (nI T.1) ks2 ct2 sm2 le2 gr2 fk fa) ++ [(a9, .inl (k9, 1, .inr (.inl ov)))]) := hD
  refine lv_aload_n hx hb dL_law_597 rfl (lv_at hl 1 rfl) ?_
  refine lv_aload_n hx hb dL_law_598 rfl (lv_at hl 0 rfl) ?_
  refine lv_iload hx hb dL_law_599 (lv_at hl 4 rfl) ?_
  refine lv_iconst (v := 1) hx hb dL_law_601 (by decide) ?_
  refine lv_iadd hx hb dL_law_602 ?_
  refine gi_as (y := nI ((4 * q) + 1)) (nI_1 _) ?_
  refine va_sld hx hb hX hbl hbA hS (vp_in_nI (n := ((4 * q) + 1)) (by omega) (by omega)) dL_law_603 ?_
  refine gi_as (y := xs ((4 * q) + 1)) (by rw [nI_clamp (by omega)]) ?_
  refine lv_aload_n hx hb dL_law_604 rfl (lv_at hl 3 rfl) ?_
  have hPc := hP.sub (ws' := ((wX a k (nI wn) (nI mn) (nI T.1) fk fa sl ks ct sm le gr) ++ [(a9, .inl (k9, 1, .inr (.inl ov)))])) [0, 1, 2, 3, 4, 5, 6, 7, 8, 17] rfl
  have hDc := hD.sub (ws' := ((wX a k (nI wn) (nI mn) (nI T.1) fk fa sl ks ct sm le gr) ++ [(a9, .inl (k9, 1, .inr (.inl ov)))])) [0, 1, 2, 3, 4, 5, 6, 7, 8, 17] (by decide) rfl
  have hKc := hK.sub (tys' := ((kX k) ++ [(k9, .long)])) [0, 1, 2, 3, 4, 5, 6, 7, 15] rfl
  have hFc := va_free (wc := ((wX a k (nI wn) (nI mn) (nI T.1) fk fa sl ks ct sm le gr) ++ [(a9, .inl (k9, 1, .inr (.inl ov)))])) hD hS hA [0, 1, 2, 3, 4, 5, 6, 7, 8, 17] rfl
  refine va_calli (vx_runSW (As := [.ref (a 0), .int (xs ((4 * q) + 1)), .ref a9]) (rest := []) ⟨hx, hb, hml, hown, hta⟩ (c_Lcount l hnt dC dI a k wn mn fk fa T σ sl ks ct sm le gr hσ hrep a9 k9 ov (xs ((4 * q) + 1)) H.size) (vx_cwSW 3 hta (gSW w257 w258 w0 w259) rfl rfl rfl (by decide +kernel) ⟨Nat.le_of_ble_eq_true rfl, Nat.le_of_ble_eq_true rfl⟩) ⟨gb_X, fun U hU hW => ⟨rfl, by rw [hU], by rw [hU]; exact hPc, va_K.moved hW.alike hKc, hDc.weaken (fun _ _ _ _ => trivial), by rw [hU]; exact ((thrE.warm hW hT).kept hS.2.1).narrow hFc⟩⟩ rfl rfl hl.1 rfl (lv_room (Nat.le_of_ble_eq_true rfl)) dL_law_605 ⟨by show 18 + q + 1 ≤ 1056; omega, by show 67055 + 6 * q + 6 ≤ 75331; omega⟩) hS (fun q _ h => hFc q h) hFc (fun r_9 u t H1 locs ht hvm hw hB hz1 hk1 hS => ?_)
  by_cases hLg : 0 ≤ (xs ((4 * q) + 1)) ∧ (xs ((4 * q) + 1)) < nI T.1
  · skip
    rw [if_pos hLg] at hw
    subst hw
    obtain ⟨σ1, sl1, ks1, ct1, sm1, le1, gr1, ⟨hσ1, hr1⟩, hP1, hK1, hD1⟩ := hB.1 hLg
    rw [ht] at hP1
    obtain ⟨hP, hD⟩ := va_join (wr := (wM b d cd (nI wn) (nI mn) (nI T.1) ks2 ct2 sm2 le2 gr2 fk fa)) (w1 := ((wX a k (nI wn) (nI mn) (nI T.1) fk fa sl1 ks1 ct1 sm1 le1 gr1) ++ [(a9, .inl (k9, 1, .inr (.inl (vp_updL ov 0 (T.2.2.1 (xs ((4 * q) + 1)).toNatClampNeg)))))])) hP hD [0, 1, 2, 3, 4, 5, 6, 7, 8, 17] [9, 10, 11, 12, 13, 14, 15, 16] rfl rfl (by decide) (by decide) hk1 hFc hP1 hD1
    have hP := hP.sub (ws' := ((wX a k (nI wn) (nI mn) (nI T.1) fk fa sl1 ks1 ct1 sm1 le1 gr1) ++ (wM b d cd (nI wn) (nI mn) (nI T.1) ks2 ct2 sm2 le2 gr2 fk fa) ++ [(a9, .inl (k9, 1, .inr (.inl (vp_updL ov 0 (T.2.2.1 (xs ((4 * q) + 1)).toNatClampNeg)))))])) [8, 9, 10, 11, 12, 13, 14, 15, 16, 0, 1, 2, 3, 4, 5, 6, 7, 17] rfl
    have hD := hD.sub (ws' := ((wX a k (nI wn) (nI mn) (nI T.1) fk fa sl1 ks1 ct1 sm1 le1 gr1) ++ (wM b d cd (nI wn) (nI mn) (nI T.1) ks2 ct2 sm2 le2 gr2 fk fa) ++ [(a9, .inl (k9, 1, .inr (.inl (vp_updL ov 0 (T.2.2.1 (xs ((4 * q) + 1)).toNatClampNeg)))))])) [8, 9, 10, 11, 12, 13, 14, 15, 16, 0, 1, 2, 3, 4, 5, 6, 7, 17] (by decide) rfl
    have hP : va_P (dC, dI) classes ((wX a k (nI wn) (nI mn) (nI T.1) fk fa sl1 ks1 ct1 sm1 le1 gr1) ++ (wM b d cd (nI wn) (nI mn) (nI T.1) ks2 ct2 sm2 le2 gr2 fk fa) ++ [(a9, .inl (k9, 1, .inr (.inl (vp_updL ov 0 (T.2.2.1 (xs ((4 * q) + 1)).toNatClampNeg)))))]) H1 := hP
    have hD : va_D (fun q : Nat => s.heap.size ≤ q) ((wX a k (nI wn) (nI mn) (nI T.1) fk fa sl1 ks1 ct1 sm1 le1 gr1) ++ (wM b d cd (nI wn) (nI mn) (nI T.1) ks2 ct2 sm2 le2 gr2 fk fa) ++ [(a9, .inl (k9, 1, .inr (.inl (vp_updL ov 0 (T.2.2.1 (xs ((4 * q) + 1)).toNatClampNeg)))))]) := hD
    generalize H1 = H at hP hS ⊢
    have hP : va_P (dC, dI) classes ((wX a k (nI wn) (nI mn) (nI T.1) fk fa sl1 ks1 ct1 sm1 le1 gr1) ++ (wM b d cd (nI wn) (nI mn) (nI T.1) ks2 ct2 sm2 le2 gr2 fk fa) ++ [(a9, .inl (k9, 1, .inr (.inl (vp_updL ov 0 (T.2.2.1 (xs ((4 * q) + 1)).toNatClampNeg)))))]) H := hP
    have hD : va_D (fun q : Nat => s.heap.size ≤ q) ((wX a k (nI wn) (nI mn) (nI T.1) fk fa sl1 ks1 ct1 sm1 le1 gr1) ++ (wM b d cd (nI wn) (nI mn) (nI T.1) ks2 ct2 sm2 le2 gr2 fk fa) ++ [(a9, .inl (k9, 1, .inr (.inl (vp_updL ov 0 (T.2.2.1 (xs ((4 * q) + 1)).toNatClampNeg)))))]) := hD
    show W p l e room_1 s m #[Value.ref sb] below meth c H locs (18 + q + 1) (67055 + 6 * q + 6) (lw_Z below #[Value.ref sb] s) (F0 m 608 ls [.int 0])
    refine lv_istore (lv' := [(5, .int 0), (0, .ref sb), (1, .ref (a 0)), (2, .ref (b 0)), (3, .ref a9), (4, .int (nI (4 * q)))]) hx hb dL_law_608 hl (by decide) rfl (fun ls hl => ?_)
    refine lv_aload_n hx hb dL_law_610 rfl (lv_at hl 3 rfl) ?_
    refine lv_aload_n hx hb dL_law_611 rfl (lv_at hl 1 rfl) ?_
    refine lv_iload hx hb dL_law_612 (lv_at hl 5 rfl) ?_
    refine lv_iconst (v := 1) hx hb dL_law_614 (by decide) ?_
    refine lv_iadd hx hb dL_law_615 ?_
    refine gi_as (y := nI ((4 * q) + 1)) (nI_1 _) ?_
    refine va_sld hx hb hX hbl hbA hS (vp_in_nI (n := ((4 * q) + 1)) (by omega) (by omega)) dL_law_616 ?_
    refine gi_as (y := xs ((4 * q) + 1)) (by rw [nI_clamp (by omega)]) ?_
    have hPc := hP.sub (ws' := (wM b d cd (nI wn) (nI mn) (nI T.1) ks2 ct2 sm2 le2 gr2 fk fa)) [9, 10, 11, 12, 13, 14, 15, 16] rfl
    have hDc := hD.sub (ws' := (wM b d cd (nI wn) (nI mn) (nI T.1) ks2 ct2 sm2 le2 gr2 fk fa)) [9, 10, 11, 12, 13, 14, 15, 16] (by decide) rfl
    have hKc := hK.sub (tys' := (kM d)) [8, 9, 10, 11, 12, 13, 14] rfl
    have hFc := va_free (wc := (wM b d cd (nI wn) (nI mn) (nI T.1) ks2 ct2 sm2 le2 gr2 fk fa)) hD hS hA [9, 10, 11, 12, 13, 14, 15, 16] rfl
    refine va_calll (va_runV (As := [.int (xs ((4 * q) + 1))]) (rest := []) ⟨hx, hb, hml, hown, hta⟩ (c_Mcount l dC dI b d cd wn mn fk fa T ks2 ct2 sm2 le2 gr2 hrep2 (xs ((4 * q) + 1)) H.size) (cwV 1 hta (gV w390 w391 w392 w2 w393) rfl rfl rfl (by decide +kernel) ⟨Nat.le_of_ble_eq_true rfl, Nat.le_of_ble_eq_true rfl⟩) ⟨gb_W, va_recv hKc hPc (ci := 1) (q0 := 0) rfl rfl, fun U hU hW => ⟨rfl, by rw [hU], by rw [hU]; exact hPc, va_K.moved hW.alike hKc, hDc.weaken (fun _ _ _ _ => trivial)⟩⟩ rfl rfl hl.1 rfl (lv_room (Nat.le_of_ble_eq_true rfl)) dL_law_617 ⟨by show 18 + q + 1 + 0 ≤ 1056; omega, by show 67055 + 6 * q + 6 + 0 ≤ 75331; omega⟩) hS (fun q _ h => hFc q h) hFc (fun r_8 u2 t H1 locs ht hvm hw2 hB2 hz1 hk1 hS => ?_)
    rw [if_pos hLg] at hw2
    subst hw2
    obtain ⟨ks3, ct3, sm3, le3, gr3, hr3, hP1, hK1, hD1⟩ := hB2.1 hLg
    rw [ht] at hP1
    obtain ⟨hP, hD⟩ := va_join (wr := ((wX a k (nI wn) (nI mn) (nI T.1) fk fa sl1 ks1 ct1 sm1 le1 gr1) ++ [(a9, .inl (k9, 1, .inr (.inl (vp_updL ov 0 (T.2.2.1 (xs ((4 * q) + 1)).toNatClampNeg)))))])) (w1 := (wM b d 0 (nI wn) (nI mn) (nI T.1) ks3 ct3 sm3 le3 gr3 fk fa)) hP hD [9, 10, 11, 12, 13, 14, 15, 16] [0, 1, 2, 3, 4, 5, 6, 7, 8, 17] rfl rfl (by decide) (by decide) hk1 hFc hP1 hD1
    have hP := hP.sub (ws' := ((wX a k (nI wn) (nI mn) (nI T.1) fk fa sl1 ks1 ct1 sm1 le1 gr1) ++ (wM b d 0 (nI wn) (nI mn) (nI T.1) ks3 ct3 sm3 le3 gr3 fk fa) ++ [(a9, .inl (k9, 1, .inr (.inl (vp_updL ov 0 (T.2.2.1 (xs ((4 * q) + 1)).toNatClampNeg)))))])) [0, 1, 2, 3, 4, 5, 6, 7, 8, 10, 11, 12, 13, 14, 15, 16, 17, 9] rfl
    have hD := hD.sub (ws' := ((wX a k (nI wn) (nI mn) (nI T.1) fk fa sl1 ks1 ct1 sm1 le1 gr1) ++ (wM b d 0 (nI wn) (nI mn) (nI T.1) ks3 ct3 sm3 le3 gr3 fk fa) ++ [(a9, .inl (k9, 1, .inr (.inl (vp_updL ov 0 (T.2.2.1 (xs ((4 * q) + 1)).toNatClampNeg)))))])) [0, 1, 2, 3, 4, 5, 6, 7, 8, 10, 11, 12, 13, 14, 15, 16, 17, 9] (by decide) rfl
    have hP : va_P (dC, dI) classes ((wX a k (nI wn) (nI mn) (nI T.1) fk fa sl1 ks1 ct1 sm1 le1 gr1) ++ (wM b d 0 (nI wn) (nI mn) (nI T.1) ks3 ct3 sm3 le3 gr3 fk fa) ++ [(a9, .inl (k9, 1, .inr (.inl (vp_updL ov 0 (T.2.2.1 (xs ((4 * q) + 1)).toNatClampNeg)))))]) H1 := hP
    have hD : va_D (fun q : Nat => s.heap.size ≤ q) ((wX a k (nI wn) (nI mn) (nI T.1) fk fa sl1 ks1 ct1 sm1 le1 gr1) ++ (wM b d 0 (nI wn) (nI mn) (nI T.1) ks3 ct3 sm3 le3 gr3 fk fa) ++ [(a9, .inl (k9, 1, .inr (.inl (vp_updL ov 0 (T.2.2.1 (xs ((4 * q) + 1)).toNatClampNeg)))))]) := hD
    generalize H1 = H at hP hS ⊢
    have hP : va_P (dC, dI) classes ((wX a k (nI wn) (nI mn) (nI T.1) fk fa sl1 ks1 ct1 sm1 le1 gr1) ++ (wM b d 0 (nI wn) (nI mn) (nI T.1) ks3 ct3 sm3 le3 gr3 fk fa) ++ [(a9, .inl (k9, 1, .inr (.inl (vp_updL ov 0 (T.2.2.1 (xs ((4 * q) + 1)).toNatClampNeg)))))]) H := hP
    have hD : va_D (fun q : Nat => s.heap.size ≤ q) ((wX a k (nI wn) (nI mn) (nI T.1) fk fa sl1 ks1 ct1 sm1 le1 gr1) ++ (wM b d 0 (nI wn) (nI mn) (nI T.1) ks3 ct3 sm3 le3 gr3 fk fa) ++ [(a9, .inl (k9, 1, .inr (.inl (vp_updL ov 0 (T.2.2.1 (xs ((4 * q) + 1)).toNatClampNeg)))))]) := hD
    show W p l e room_1 s m #[Value.ref sb] below meth c H locs (18 + q + 1 + 0) (67055 + 6 * q + 6 + 0) (lw_Z below #[Value.ref sb] s) (F0 m 620 ls [.long (T.2.2.1 (xs ((4 * q) + 1)).toNatClampNeg)])
    refine lv_lstore (lv' := [(6, .long (T.2.2.1 (xs ((4 * q) + 1)).toNatClampNeg)), (5, .int 0), (0, .ref sb), (1, .ref (a 0)), (2, .ref (b 0)), (3, .ref a9), (4, .int (nI (4 * q)))]) hx hb dL_law_620 hl (by decide) rfl (fun ls hl => ?_)
    refine lv_aload_n hx hb dL_law_622 rfl (lv_at hl 4 rfl) ?_
    refine gi_callR (v := .int 0) (W.runV (As := []) (rest := []) ⟨hx, hb, hml, hown, hta⟩ (c_thrown l dC dI b d 0 (nI wn) (nI mn) (nI T.1) ks3 ct3 sm3 le3 gr3 fk fa) (cwV 0 hta (gV w312 w313 w314 w2 w315) rfl rfl rfl (by decide +kernel) ⟨Nat.le_of_ble_eq_true rfl, Nat.le_of_ble_eq_true rfl⟩) ⟨gb_R, va_recv hK hP (ci := 1) (q0 := 9) rfl rfl, fun U hU hW => ⟨rfl, by rw [hU]; exact hP.sub (ws' := (wM b d 0 (nI wn) (nI mn) (nI T.1) ks3 ct3 sm3 le3 gr3 fk fa)) [9, 10, 11, 12, 13, 14, 15, 16] rfl, va_K.moved hW.alike (hK.sub (tys' := kM d) [8, 9, 10, 11, 12, 13, 14] rfl)⟩⟩ rfl rfl hl.1 rfl (lv_room (Nat.le_of_ble_eq_true rfl)) dL_law_623 ⟨by show 18 + q + 1 + 0 ≤ 1056; omega, by show 67055 + 6 * q + 6 + 0 ≤ 75331; omega⟩) ?_
    refine lv_iload hx hb dL_law_626 (lv_at hl 1 rfl) ?_
    refine lv_icmp_eq (tgt := 633) hx hb dL_law_628 (by decide) (fun h1 => ?_) (fun h1 => ?_)
    rotate_left
    · skip
      exact absurd rfl h1
    · skip
      refine lv_iload hx hb dL_law_633 (lv_at hl 1 rfl) ?_
      refine lv_if_ne (tgt := 649) hx hb dL_law_635 (by decide) (fun h2 => ?_) (fun h2 => ?_)
      · skip
        exact absurd rfl h2
      · skip
        refine lv_aload_n hx hb dL_law_638 rfl (lv_at hl 5 rfl) ?_
        refine lv_iconst (v := 0) hx hb dL_law_639 (by decide) ?_
        refine gi_as (y := nI 0) (nI_0.symm) ?_
        refine gi_lald hx hb hK hP 17 15 rfl rfl (k := 0) (by omega) (by decide) dL_law_640 ?_
        refine gi_asl (y := (T.2.2.1 (xs ((4 * q) + 1)).toNatClampNeg)) (pk_uLs) ?_
        refine lv_lload hx hb dL_law_641 (lv_at hl 0 rfl) ?_
        refine W.lcmp (x := (T.2.2.1 (xs ((4 * q) + 1)).toNatClampNeg)) (y := (T.2.2.1 (xs ((4 * q) + 1)).toNatClampNeg)) hx hb dL_law_643 ?_
        refine lv_if_eq (tgt := 649) hx hb dL_law_644 (by decide) (fun h3 => ?_) (fun h3 => ?_)
        · skip
          refine lv_goto (tgt := 731) hx hb dL_law_649 (by decide) ?_
          have hl := lv_sub hl [2, 3, 4, 5, 6] rfl
          have hl : lv_has ls 8 [(0, .ref sb), (1, .ref (a 0)), (2, .ref (b 0)), (3, .ref a9), (4, .int (nI (4 * q)))] := hl
          exact nxt _ _ _ _ _ _ _ _ _ ls ⟨σ1, sl1, ks1, ct1, sm1, le1, gr1, ks3, ct3, sm3, le3, gr3, hσ1, hr1, hr3, hP, hD, hS⟩ hl
        · skip
          exact absurd ((lg_cmp_eq _ _).mpr rfl) h3
  · skip
    rw [if_neg hLg] at hw
    subst hw
    obtain ⟨σ1, sl1, ks1, ct1, sm1, le1, gr1, ⟨hσ1, hr1⟩, hP1, hK1, hD1⟩ := hB.2 hLg
    rw [ht] at hP1
    obtain ⟨hP, hD⟩ := va_join (wr := (wM b d cd (nI wn) (nI mn) (nI T.1) ks2 ct2 sm2 le2 gr2 fk fa)) (w1 := ((wX a k (nI wn) (nI mn) (nI T.1) fk fa sl1 ks1 ct1 sm1 le1 gr1) ++ [(a9, .inl (k9, 1, .inr (.inl ov)))])) hP hD [0, 1, 2, 3, 4, 5, 6, 7, 8, 17] [9, 10, 11, 12, 13, 14, 15, 16] rfl rfl (by decide) (by decide) hk1 hFc hP1 hD1
    have hP := hP.sub (ws' := ((wX a k (nI wn) (nI mn) (nI T.1) fk fa sl1 ks1 ct1 sm1 le1 gr1) ++ (wM b d cd (nI wn) (nI mn) (nI T.1) ks2 ct2 sm2 le2 gr2 fk fa) ++ [(a9, .inl (k9, 1, .inr (.inl ov)))])) [8, 9, 10, 11, 12, 13, 14, 15, 16, 0, 1, 2, 3, 4, 5, 6, 7, 17] rfl
    have hD := hD.sub (ws' := ((wX a k (nI wn) (nI mn) (nI T.1) fk fa sl1 ks1 ct1 sm1 le1 gr1) ++ (wM b d cd (nI wn) (nI mn) (nI T.1) ks2 ct2 sm2 le2 gr2 fk fa) ++ [(a9, .inl (k9, 1, .inr (.inl ov)))])) [8, 9, 10, 11, 12, 13, 14, 15, 16, 0, 1, 2, 3, 4, 5, 6, 7, 17] (by decide) rfl
    have hP : va_P (dC, dI) classes ((wX a k (nI wn) (nI mn) (nI T.1) fk fa sl1 ks1 ct1 sm1 le1 gr1) ++ (wM b d cd (nI wn) (nI mn) (nI T.1) ks2 ct2 sm2 le2 gr2 fk fa) ++ [(a9, .inl (k9, 1, .inr (.inl ov)))]) H1 := hP
    have hD : va_D (fun q : Nat => s.heap.size ≤ q) ((wX a k (nI wn) (nI mn) (nI T.1) fk fa sl1 ks1 ct1 sm1 le1 gr1) ++ (wM b d cd (nI wn) (nI mn) (nI T.1) ks2 ct2 sm2 le2 gr2 fk fa) ++ [(a9, .inl (k9, 1, .inr (.inl ov)))]) := hD
    generalize H1 = H at hP hS ⊢
    have hP : va_P (dC, dI) classes ((wX a k (nI wn) (nI mn) (nI T.1) fk fa sl1 ks1 ct1 sm1 le1 gr1) ++ (wM b d cd (nI wn) (nI mn) (nI T.1) ks2 ct2 sm2 le2 gr2 fk fa) ++ [(a9, .inl (k9, 1, .inr (.inl ov)))]) H := hP
    have hD : va_D (fun q : Nat => s.heap.size ≤ q) ((wX a k (nI wn) (nI mn) (nI T.1) fk fa sl1 ks1 ct1 sm1 le1 gr1) ++ (wM b d cd (nI wn) (nI mn) (nI T.1) ks2 ct2 sm2 le2 gr2 fk fa) ++ [(a9, .inl (k9, 1, .inr (.inl ov)))]) := hD
    show W p l e room_1 s m #[Value.ref sb] below meth c H locs (18 + q + 1) (67055 + 6 * q + 6) (lw_Z below #[Value.ref sb] s) (F0 m 608 ls [.int 1])
    refine lv_istore (lv' := [(5, .int 1), (0, .ref sb), (1, .ref (a 0)), (2, .ref (b 0)), (3, .ref a9), (4, .int (nI (4 * q)))]) hx hb dL_law_608 hl (by decide) rfl (fun ls hl => ?_)
    refine lv_aload_n hx hb dL_law_610 rfl (lv_at hl 3 rfl) ?_
    refine lv_aload_n hx hb dL_law_611 rfl (lv_at hl 1 rfl) ?_
    refine lv_iload hx hb dL_law_612 (lv_at hl 5 rfl) ?_
    refine lv_iconst (v := 1) hx hb dL_law_614 (by decide) ?_
    refine lv_iadd hx hb dL_law_615 ?_
    refine gi_as (y := nI ((4 * q) + 1)) (nI_1 _) ?_
    refine va_sld hx hb hX hbl hbA hS (vp_in_nI (n := ((4 * q) + 1)) (by omega) (by omega)) dL_law_616 ?_
    refine gi_as (y := xs ((4 * q) + 1)) (by rw [nI_clamp (by omega)]) ?_
    have hPc := hP.sub (ws' := (wM b d cd (nI wn) (nI mn) (nI T.1) ks2 ct2 sm2 le2 gr2 fk fa)) [9, 10, 11, 12, 13, 14, 15, 16] rfl
    have hDc := hD.sub (ws' := (wM b d cd (nI wn) (nI mn) (nI T.1) ks2 ct2 sm2 le2 gr2 fk fa)) [9, 10, 11, 12, 13, 14, 15, 16] (by decide) rfl
    have hKc := hK.sub (tys' := (kM d)) [8, 9, 10, 11, 12, 13, 14] rfl
    have hFc := va_free (wc := (wM b d cd (nI wn) (nI mn) (nI T.1) ks2 ct2 sm2 le2 gr2 fk fa)) hD hS hA [9, 10, 11, 12, 13, 14, 15, 16] rfl
    refine va_calll (va_runV (As := [.int (xs ((4 * q) + 1))]) (rest := []) ⟨hx, hb, hml, hown, hta⟩ (c_Mcount l dC dI b d cd wn mn fk fa T ks2 ct2 sm2 le2 gr2 hrep2 (xs ((4 * q) + 1)) H.size) (cwV 1 hta (gV w390 w391 w392 w2 w393) rfl rfl rfl (by decide +kernel) ⟨Nat.le_of_ble_eq_true rfl, Nat.le_of_ble_eq_true rfl⟩) ⟨gb_W, va_recv hKc hPc (ci := 1) (q0 := 0) rfl rfl, fun U hU hW => ⟨rfl, by rw [hU], by rw [hU]; exact hPc, va_K.moved hW.alike hKc, hDc.weaken (fun _ _ _ _ => trivial)⟩⟩ rfl rfl hl.1 rfl (lv_room (Nat.le_of_ble_eq_true rfl)) dL_law_617 ⟨by show 18 + q + 1 + 0 ≤ 1056; omega, by show 67055 + 6 * q + 6 + 0 ≤ 75331; omega⟩) hS (fun q _ h => hFc q h) hFc (fun r_8 u2 t H1 locs ht hvm hw2 hB2 hz1 hk1 hS => ?_)
    rw [if_neg hLg] at hw2
    subst hw2
    obtain ⟨ks3, ct3, sm3, le3, gr3, hr3, hP1, hK1, hD1⟩ := hB2.2 hLg
    rw [ht] at hP1
    obtain ⟨hP, hD⟩ := va_join (wr := ((wX a k (nI wn) (nI mn) (nI T.1) fk fa sl1 ks1 ct1 sm1 le1 gr1) ++ [(a9, .inl (k9, 1, .inr (.inl ov)))])) (w1 := (wM b d 1 (nI wn) (nI mn) (nI T.1) ks3 ct3 sm3 le3 gr3 fk fa)) hP hD [9, 10, 11, 12, 13, 14, 15, 16] [0, 1, 2, 3, 4, 5, 6, 7, 8, 17] rfl rfl (by decide) (by decide) hk1 hFc hP1 hD1
    have hP := hP.sub (ws' := ((wX a k (nI wn) (nI mn) (nI T.1) fk fa sl1 ks1 ct1 sm1 le1 gr1) ++ (wM b d 1 (nI wn) (nI mn) (nI T.1) ks3 ct3 sm3 le3 gr3 fk fa) ++ [(a9, .inl (k9, 1, .inr (.inl ov)))])) [0, 1, 2, 3, 4, 5, 6, 7, 8, 10, 11, 12, 13, 14, 15, 16, 17, 9] rfl
    have hD := hD.sub (ws' := ((wX a k (nI wn) (nI mn) (nI T.1) fk fa sl1 ks1 ct1 sm1 le1 gr1) ++ (wM b d 1 (nI wn) (nI mn) (nI T.1) ks3 ct3 sm3 le3 gr3 fk fa) ++ [(a9, .inl (k9, 1, .inr (.inl ov)))])) [0, 1, 2, 3, 4, 5, 6, 7, 8, 10, 11, 12, 13, 14, 15, 16, 17, 9] (by decide) rfl
    have hP : va_P (dC, dI) classes ((wX a k (nI wn) (nI mn) (nI T.1) fk fa sl1 ks1 ct1 sm1 le1 gr1) ++ (wM b d 1 (nI wn) (nI mn) (nI T.1) ks3 ct3 sm3 le3 gr3 fk fa) ++ [(a9, .inl (k9, 1, .inr (.inl ov)))]) H1 := hP
    have hD : va_D (fun q : Nat => s.heap.size ≤ q) ((wX a k (nI wn) (nI mn) (nI T.1) fk fa sl1 ks1 ct1 sm1 le1 gr1) ++ (wM b d 1 (nI wn) (nI mn) (nI T.1) ks3 ct3 sm3 le3 gr3 fk fa) ++ [(a9, .inl (k9, 1, .inr (.inl ov)))]) := hD
    generalize H1 = H at hP hS ⊢
    have hP : va_P (dC, dI) classes ((wX a k (nI wn) (nI mn) (nI T.1) fk fa sl1 ks1 ct1 sm1 le1 gr1) ++ (wM b d 1 (nI wn) (nI mn) (nI T.1) ks3 ct3 sm3 le3 gr3 fk fa) ++ [(a9, .inl (k9, 1, .inr (.inl ov)))]) H := hP
    have hD : va_D (fun q : Nat => s.heap.size ≤ q) ((wX a k (nI wn) (nI mn) (nI T.1) fk fa sl1 ks1 ct1 sm1 le1 gr1) ++ (wM b d 1 (nI wn) (nI mn) (nI T.1) ks3 ct3 sm3 le3 gr3 fk fa) ++ [(a9, .inl (k9, 1, .inr (.inl ov)))]) := hD
    show W p l e room_1 s m #[Value.ref sb] below meth c H locs (18 + q + 1 + 0) (67055 + 6 * q + 6 + 0) (lw_Z below #[Value.ref sb] s) (F0 m 620 ls [.long 0])
    refine lv_lstore (lv' := [(6, .long 0), (5, .int 1), (0, .ref sb), (1, .ref (a 0)), (2, .ref (b 0)), (3, .ref a9), (4, .int (nI (4 * q)))]) hx hb dL_law_620 hl (by decide) rfl (fun ls hl => ?_)
    refine lv_aload_n hx hb dL_law_622 rfl (lv_at hl 4 rfl) ?_
    refine gi_callR (v := .int 1) (W.runV (As := []) (rest := []) ⟨hx, hb, hml, hown, hta⟩ (c_thrown l dC dI b d 1 (nI wn) (nI mn) (nI T.1) ks3 ct3 sm3 le3 gr3 fk fa) (cwV 0 hta (gV w312 w313 w314 w2 w315) rfl rfl rfl (by decide +kernel) ⟨Nat.le_of_ble_eq_true rfl, Nat.le_of_ble_eq_true rfl⟩) ⟨gb_R, va_recv hK hP (ci := 1) (q0 := 9) rfl rfl, fun U hU hW => ⟨rfl, by rw [hU]; exact hP.sub (ws' := (wM b d 1 (nI wn) (nI mn) (nI T.1) ks3 ct3 sm3 le3 gr3 fk fa)) [9, 10, 11, 12, 13, 14, 15, 16] rfl, va_K.moved hW.alike (hK.sub (tys' := kM d) [8, 9, 10, 11, 12, 13, 14] rfl)⟩⟩ rfl rfl hl.1 rfl (lv_room (Nat.le_of_ble_eq_true rfl)) dL_law_623 ⟨by show 18 + q + 1 + 0 ≤ 1056; omega, by show 67055 + 6 * q + 6 + 0 ≤ 75331; omega⟩) ?_
    refine lv_iload hx hb dL_law_626 (lv_at hl 1 rfl) ?_
    refine lv_icmp_eq (tgt := 633) hx hb dL_law_628 (by decide) (fun h1 => ?_) (fun h1 => ?_)
    rotate_left
    · skip
      exact absurd rfl h1
    · skip
      refine lv_iload hx hb dL_law_633 (lv_at hl 1 rfl) ?_
      refine lv_if_ne (tgt := 649) hx hb dL_law_635 (by decide) (fun h2 => ?_) (fun h2 => ?_)
      · skip
        refine lv_goto (tgt := 731) hx hb dL_law_649 (by decide) ?_
        have hl := lv_sub hl [2, 3, 4, 5, 6] rfl
        have hl : lv_has ls 8 [(0, .ref sb), (1, .ref (a 0)), (2, .ref (b 0)), (3, .ref a9), (4, .int (nI (4 * q)))] := hl
        exact nxt _ _ _ _ _ _ _ _ _ ls ⟨σ1, sl1, ks1, ct1, sm1, le1, gr1, ks3, ct3, sm3, le3, gr3, hσ1, hr1, hr3, hP, hD, hS⟩ hl
      · skip
        exact absurd h2 (by decide)
set_option maxHeartbeats 4000000 in
set_option maxRecDepth 100000 in
/-- the law at told -/
theorem lc_told {p : Program} {l : Launch} {e : Env} {s : State} {m : MethodId} {below : List Frame} {meth : Method} {c : Code} {dC : Nat → ClassId} {dI : Nat → Nat → Nat} {sb L : Nat} {xs : Nat → Int32} {a : Nat → Nat} {k : Nat → ClassId} {b : Nat → Nat} {d : Nat → ClassId} {a9 : Nat} {k9 : ClassId} (hnt : l.stackTraces = false) (hL : L ≤ 2048) (C0 : lw_At p s m meth c sb L xs) (hT : thrE (fun q : Nat => s.heap.size ≤ q) s s.heap) (hK : va_K (dC, dI) classes (kX k ++ kM d ++ [(k9, .long)]) s) (q : Nat) (hq : 4 * q + 4 ≤ L) (nxt : (∀ (wn mn : Nat) (fk : Nat → Int32) (fa : Nat → Int64) (T : TB) (cd : Int32) (ov : Nat → Int64) (H : Heap) (locs : List Loc) (ls : Array Slot), lwI dC dI a k b d a9 k9 s H locs wn mn fk fa T cd ov → lv_has ls 8 [(0, .ref sb), (1, .ref (a 0)), (2, .ref (b 0)), (3, .ref a9), (4, .int (nI (4 * q)))] → W p l e room_1 s m #[Value.ref sb] below meth c H locs (18 + q + 1) (67055 + 6 * q + 6) (lw_Z below #[Value.ref sb] s) (F0 m 731 ls []))) (wn mn : Nat) (fk : Nat → Int32) (fa : Nat → Int64) (T : TB) (cd : Int32) (ov : Nat → Int64) (H : Heap) (locs : List Loc) (ls : Array Slot) (hI : lwI dC dI a k b d a9 k9 s H locs wn mn fk fa T cd ov) (hl : lv_has ls 8 [(0, .ref sb), (1, .ref (a 0)), (2, .ref (b 0)), (3, .ref a9), (4, .int (nI (4 * q)))]) : W p l e room_1 s m #[Value.ref sb] below meth c H locs (18 + q) (67055 + 6 * q) (lw_Z below #[Value.ref sb] s) (F0 m 652 ls []) := by
  obtain ⟨hx, hb, hr, hml, hown, hts, hX, hbl, hlocks, hgv⟩ := C0
  have hta : ∀ w ∈ wAll, w.before #[Value.ref sb] s = true := fun w h => hts w (wA_tbl h)
  have hown : s.vm.findClass "GroupRowsLaw" = some m.cls := hown
  have hA : ∀ q : Nat, s.heap.size ≤ q → (fun q : Nat => s.heap.size ≤ q) q := fun _ h => h
  have hbA : ¬ (fun q : Nat => s.heap.size ≤ q) sb := Nat.not_le.mpr hbl
  obtain ⟨σ, sl, ks, ct, sm, le, gr, ks2, ct2, sm2, le2, gr2, hσ, hrep, hrep2, hP, hD, hS⟩ := hI
  have hP : va_P (dC, dI) classes ((wX a k (nI wn) (nI mn) (nI T.1) fk fa sl ks ct sm le gr) ++ (wM b d cd (nI wn) (nI mn) (nI T.1) ks2 ct2 sm2 le2 gr2 fk fa) ++ [(a9, .inl (k9, 1, .inr (.inl ov)))]) H := hP
  have hD : va_D (fun q : Nat => s.heap.size ≤ q) ((wX a k (nI wn) (nI mn) (nI T.1) fk fa sl ks ct sm le gr) ++ (wM b d cd (nI wn) (nI mn) (nI T.1) ks2 ct2 sm2 le2 gr2 fk fa) ++ [(a9, .inl (k9, 1, .inr (.inl ov)))]) := hD
  refine lv_aload_n hx hb dL_law_652 rfl (lv_at hl 1 rfl) ?_
  refine lv_aload_n hx hb dL_law_653 rfl (lv_at hl 0 rfl) ?_
  refine lv_iload hx hb dL_law_654 (lv_at hl 4 rfl) ?_
  refine lv_iconst (v := 1) hx hb dL_law_656 (by decide) ?_
  refine lv_iadd hx hb dL_law_657 ?_
  refine gi_as (y := nI ((4 * q) + 1)) (nI_1 _) ?_
  refine va_sld hx hb hX hbl hbA hS (vp_in_nI (n := ((4 * q) + 1)) (by omega) (by omega)) dL_law_658 ?_
  refine gi_as (y := xs ((4 * q) + 1)) (by rw [nI_clamp (by omega)]) ?_
  refine lv_aload_n hx hb dL_law_659 rfl (lv_at hl 0 rfl) ?_
  refine lv_iload hx hb dL_law_660 (lv_at hl 4 rfl) ?_
  refine lv_iconst (v := 2) hx hb dL_law_662 (by decide) ?_
  refine lv_iadd hx hb dL_law_663 ?_
  refine gi_as (y := nI ((4 * q) + 2)) (nI_add _ 2) ?_
  refine va_sld hx hb hX hbl hbA hS (vp_in_nI (n := ((4 * q) + 2)) (by omega) (by omega)) dL_law_664 ?_
  refine gi_as (y := xs ((4 * q) + 2)) (by rw [nI_clamp (by omega)]) ?_
  refine lv_aload_n hx hb dL_law_665 rfl (lv_at hl 0 rfl) ?_
  refine lv_iload hx hb dL_law_666 (lv_at hl 4 rfl) ?_
  refine lv_iconst (v := 3) hx hb dL_law_668 (by decide) ?_
  refine lv_iadd hx hb dL_law_669 ?_
  refine gi_as (y := nI ((4 * q) + 3)) (nI_add _ 3) ?_
  refine va_sld hx hb hX hbl hbA hS (vp_in_nI (n := ((4 * q) + 3)) (by omega) (by omega)) dL_law_670 ?_
  refine gi_as (y := xs ((4 * q) + 3)) (by rw [nI_clamp (by omega)]) ?_
  refine lv_aload_n hx hb dL_law_671 rfl (lv_at hl 3 rfl) ?_
  have hPc := hP.sub (ws' := ((wX a k (nI wn) (nI mn) (nI T.1) fk fa sl ks ct sm le gr) ++ [(a9, .inl (k9, 1, .inr (.inl ov)))])) [0, 1, 2, 3, 4, 5, 6, 7, 8, 17] rfl
  have hDc := hD.sub (ws' := ((wX a k (nI wn) (nI mn) (nI T.1) fk fa sl ks ct sm le gr) ++ [(a9, .inl (k9, 1, .inr (.inl ov)))])) [0, 1, 2, 3, 4, 5, 6, 7, 8, 17] (by decide) rfl
  have hKc := hK.sub (tys' := ((kX k) ++ [(k9, .long)])) [0, 1, 2, 3, 4, 5, 6, 7, 15] rfl
  have hFc := va_free (wc := ((wX a k (nI wn) (nI mn) (nI T.1) fk fa sl ks ct sm le gr) ++ [(a9, .inl (k9, 1, .inr (.inl ov)))])) hD hS hA [0, 1, 2, 3, 4, 5, 6, 7, 8, 17] rfl
  refine va_calli (vx_runSW (As := [.ref (a 0), .int (xs ((4 * q) + 1)), .int (xs ((4 * q) + 2)), .int (xs ((4 * q) + 3)), .ref a9]) (rest := []) ⟨hx, hb, hml, hown, hta⟩ (c_Ltold l hnt dC dI a k wn mn fk fa T σ sl ks ct sm le gr hσ hrep a9 k9 ov (xs ((4 * q) + 1)) (xs ((4 * q) + 2)) (xs ((4 * q) + 3)) H.size) (vx_cwSW 5 hta (gSW w264 w265 w0 w266) rfl rfl rfl (by decide +kernel) ⟨Nat.le_of_ble_eq_true rfl, Nat.le_of_ble_eq_true rfl⟩) ⟨gb_X, fun U hU hW => ⟨rfl, by rw [hU], by rw [hU]; exact hPc, va_K.moved hW.alike hKc, hDc.weaken (fun _ _ _ _ => trivial), by rw [hU]; exact ((thrE.warm hW hT).kept hS.2.1).narrow hFc⟩⟩ rfl rfl hl.1 rfl (lv_room (Nat.le_of_ble_eq_true rfl)) dL_law_672 ⟨by show 18 + q + 1 ≤ 1056; omega, by show 67055 + 6 * q + 6 ≤ 75331; omega⟩) hS (fun q _ h => hFc q h) hFc (fun r_9 u t H1 locs ht hvm hw hB hz1 hk1 hS => ?_)
  by_cases hLg : (0 ≤ (xs ((4 * q) + 1)) ∧ (xs ((4 * q) + 1)) < nI T.1) ∧ (0 ≤ (xs ((4 * q) + 2)) ∧ (xs ((4 * q) + 2)) < nI mn) ∧ 0 ≤ (xs ((4 * q) + 3)) ∧ (xs ((4 * q) + 3)) ≤ 2
  · skip
    rw [if_pos hLg] at hw
    subst hw
    obtain ⟨σ1, sl1, ks1, ct1, sm1, le1, gr1, ⟨hσ1, hr1⟩, hP1, hK1, hD1⟩ := hB.1 hLg
    rw [ht] at hP1
    obtain ⟨hP, hD⟩ := va_join (wr := (wM b d cd (nI wn) (nI mn) (nI T.1) ks2 ct2 sm2 le2 gr2 fk fa)) (w1 := ((wX a k (nI wn) (nI mn) (nI T.1) fk fa sl1 ks1 ct1 sm1 le1 gr1) ++ [(a9, .inl (k9, 1, .inr (.inl (vp_updL ov 0 (if (xs ((4 * q) + 3)) = 0 then T.2.2.2.1 (xs ((4 * q) + 1)).toNatClampNeg (xs ((4 * q) + 2)).toNatClampNeg else if (xs ((4 * q) + 3)) = 1 then T.2.2.2.2.1 (xs ((4 * q) + 1)).toNatClampNeg (xs ((4 * q) + 2)).toNatClampNeg else T.2.2.2.2.2 (xs ((4 * q) + 1)).toNatClampNeg (xs ((4 * q) + 2)).toNatClampNeg)))))])) hP hD [0, 1, 2, 3, 4, 5, 6, 7, 8, 17] [9, 10, 11, 12, 13, 14, 15, 16] rfl rfl (by decide) (by decide) hk1 hFc hP1 hD1
    have hP := hP.sub (ws' := ((wX a k (nI wn) (nI mn) (nI T.1) fk fa sl1 ks1 ct1 sm1 le1 gr1) ++ (wM b d cd (nI wn) (nI mn) (nI T.1) ks2 ct2 sm2 le2 gr2 fk fa) ++ [(a9, .inl (k9, 1, .inr (.inl (vp_updL ov 0 (if (xs ((4 * q) + 3)) = 0 then T.2.2.2.1 (xs ((4 * q) + 1)).toNatClampNeg (xs ((4 * q) + 2)).toNatClampNeg else if (xs ((4 * q) + 3)) = 1 then T.2.2.2.2.1 (xs ((4 * q) + 1)).toNatClampNeg (xs ((4 * q) + 2)).toNatClampNeg else T.2.2.2.2.2 (xs ((4 * q) + 1)).toNatClampNeg (xs ((4 * q) + 2)).toNatClampNeg)))))])) [8, 9, 10, 11, 12, 13, 14, 15, 16, 0, 1, 2, 3, 4, 5, 6, 7, 17] rfl
    have hD := hD.sub (ws' := ((wX a k (nI wn) (nI mn) (nI T.1) fk fa sl1 ks1 ct1 sm1 le1 gr1) ++ (wM b d cd (nI wn) (nI mn) (nI T.1) ks2 ct2 sm2 le2 gr2 fk fa) ++ [(a9, .inl (k9, 1, .inr (.inl (vp_updL ov 0 (if (xs ((4 * q) + 3)) = 0 then T.2.2.2.1 (xs ((4 * q) + 1)).toNatClampNeg (xs ((4 * q) + 2)).toNatClampNeg else if (xs ((4 * q) + 3)) = 1 then T.2.2.2.2.1 (xs ((4 * q) + 1)).toNatClampNeg (xs ((4 * q) + 2)).toNatClampNeg else T.2.2.2.2.2 (xs ((4 * q) + 1)).toNatClampNeg (xs ((4 * q) + 2)).toNatClampNeg)))))])) [8, 9, 10, 11, 12, 13, 14, 15, 16, 0, 1, 2, 3, 4, 5, 6, 7, 17] (by decide) rfl
    have hP : va_P (dC, dI) classes ((wX a k (nI wn) (nI mn) (nI T.1) fk fa sl1 ks1 ct1 sm1 le1 gr1) ++ (wM b d cd (nI wn) (nI mn) (nI T.1) ks2 ct2 sm2 le2 gr2 fk fa) ++ [(a9, .inl (k9, 1, .inr (.inl (vp_updL ov 0 (if (xs ((4 * q) + 3)) = 0 then T.2.2.2.1 (xs ((4 * q) + 1)).toNatClampNeg (xs ((4 * q) + 2)).toNatClampNeg else if (xs ((4 * q) + 3)) = 1 then T.2.2.2.2.1 (xs ((4 * q) + 1)).toNatClampNeg (xs ((4 * q) + 2)).toNatClampNeg else T.2.2.2.2.2 (xs ((4 * q) + 1)).toNatClampNeg (xs ((4 * q) + 2)).toNatClampNeg)))))]) H1 := hP
    have hD : va_D (fun q : Nat => s.heap.size ≤ q) ((wX a k (nI wn) (nI mn) (nI T.1) fk fa sl1 ks1 ct1 sm1 le1 gr1) ++ (wM b d cd (nI wn) (nI mn) (nI T.1) ks2 ct2 sm2 le2 gr2 fk fa) ++ [(a9, .inl (k9, 1, .inr (.inl (vp_updL ov 0 (if (xs ((4 * q) + 3)) = 0 then T.2.2.2.1 (xs ((4 * q) + 1)).toNatClampNeg (xs ((4 * q) + 2)).toNatClampNeg else if (xs ((4 * q) + 3)) = 1 then T.2.2.2.2.1 (xs ((4 * q) + 1)).toNatClampNeg (xs ((4 * q) + 2)).toNatClampNeg else T.2.2.2.2.2 (xs ((4 * q) + 1)).toNatClampNeg (xs ((4 * q) + 2)).toNatClampNeg)))))]) := hD
    generalize H1 = H at hP hS ⊢
    have hP : va_P (dC, dI) classes ((wX a k (nI wn) (nI mn) (nI T.1) fk fa sl1 ks1 ct1 sm1 le1 gr1) ++ (wM b d cd (nI wn) (nI mn) (nI T.1) ks2 ct2 sm2 le2 gr2 fk fa) ++ [(a9, .inl (k9, 1, .inr (.inl (vp_updL ov 0 (if (xs ((4 * q) + 3)) = 0 then T.2.2.2.1 (xs ((4 * q) + 1)).toNatClampNeg (xs ((4 * q) + 2)).toNatClampNeg else if (xs ((4 * q) + 3)) = 1 then T.2.2.2.2.1 (xs ((4 * q) + 1)).toNatClampNeg (xs ((4 * q) + 2)).toNatClampNeg else T.2.2.2.2.2 (xs ((4 * q) + 1)).toNatClampNeg (xs ((4 * q) + 2)).toNatClampNeg)))))]) H := hP
    have hD : va_D (fun q : Nat => s.heap.size ≤ q) ((wX a k (nI wn) (nI mn) (nI T.1) fk fa sl1 ks1 ct1 sm1 le1 gr1) ++ (wM b d cd (nI wn) (nI mn) (nI T.1) ks2 ct2 sm2 le2 gr2 fk fa) ++ [(a9, .inl (k9, 1, .inr (.inl (vp_updL ov 0 (if (xs ((4 * q) + 3)) = 0 then T.2.2.2.1 (xs ((4 * q) + 1)).toNatClampNeg (xs ((4 * q) + 2)).toNatClampNeg else if (xs ((4 * q) + 3)) = 1 then T.2.2.2.2.1 (xs ((4 * q) + 1)).toNatClampNeg (xs ((4 * q) + 2)).toNatClampNeg else T.2.2.2.2.2 (xs ((4 * q) + 1)).toNatClampNeg (xs ((4 * q) + 2)).toNatClampNeg)))))]) := hD
    show W p l e room_1 s m #[Value.ref sb] below meth c H locs (18 + q + 1) (67055 + 6 * q + 6) (lw_Z below #[Value.ref sb] s) (F0 m 675 ls [.int 0])
    refine lv_istore (lv' := [(5, .int 0), (0, .ref sb), (1, .ref (a 0)), (2, .ref (b 0)), (3, .ref a9), (4, .int (nI (4 * q)))]) hx hb dL_law_675 hl (by decide) rfl (fun ls hl => ?_)
    refine lv_aload_n hx hb dL_law_677 rfl (lv_at hl 3 rfl) ?_
    refine lv_aload_n hx hb dL_law_678 rfl (lv_at hl 1 rfl) ?_
    refine lv_iload hx hb dL_law_679 (lv_at hl 5 rfl) ?_
    refine lv_iconst (v := 1) hx hb dL_law_681 (by decide) ?_
    refine lv_iadd hx hb dL_law_682 ?_
    refine gi_as (y := nI ((4 * q) + 1)) (nI_1 _) ?_
    refine va_sld hx hb hX hbl hbA hS (vp_in_nI (n := ((4 * q) + 1)) (by omega) (by omega)) dL_law_683 ?_
    refine gi_as (y := xs ((4 * q) + 1)) (by rw [nI_clamp (by omega)]) ?_
    refine lv_aload_n hx hb dL_law_684 rfl (lv_at hl 1 rfl) ?_
    refine lv_iload hx hb dL_law_685 (lv_at hl 5 rfl) ?_
    refine lv_iconst (v := 2) hx hb dL_law_687 (by decide) ?_
    refine lv_iadd hx hb dL_law_688 ?_
    refine gi_as (y := nI ((4 * q) + 2)) (nI_add _ 2) ?_
    refine va_sld hx hb hX hbl hbA hS (vp_in_nI (n := ((4 * q) + 2)) (by omega) (by omega)) dL_law_689 ?_
    refine gi_as (y := xs ((4 * q) + 2)) (by rw [nI_clamp (by omega)]) ?_
    refine lv_aload_n hx hb dL_law_690 rfl (lv_at hl 1 rfl) ?_
    refine lv_iload hx hb dL_law_691 (lv_at hl 5 rfl) ?_
    refine lv_iconst (v := 3) hx hb dL_law_693 (by decide) ?_
    refine lv_iadd hx hb dL_law_694 ?_
    refine gi_as (y := nI ((4 * q) + 3)) (nI_add _ 3) ?_
    refine va_sld hx hb hX hbl hbA hS (vp_in_nI (n := ((4 * q) + 3)) (by omega) (by omega)) dL_law_695 ?_
    refine gi_as (y := xs ((4 * q) + 3)) (by rw [nI_clamp (by omega)]) ?_
    have hPc := hP.sub (ws' := (wM b d cd (nI wn) (nI mn) (nI T.1) ks2 ct2 sm2 le2 gr2 fk fa)) [9, 10, 11, 12, 13, 14, 15, 16] rfl
    have hDc := hD.sub (ws' := (wM b d cd (nI wn) (nI mn) (nI T.1) ks2 ct2 sm2 le2 gr2 fk fa)) [9, 10, 11, 12, 13, 14, 15, 16] (by decide) rfl
    have hKc := hK.sub (tys' := (kM d)) [8, 9, 10, 11, 12, 13, 14] rfl
    have hFc := va_free (wc := (wM b d cd (nI wn) (nI mn) (nI T.1) ks2 ct2 sm2 le2 gr2 fk fa)) hD hS hA [9, 10, 11, 12, 13, 14, 15, 16] rfl
    refine va_calll (va_runV (As := [.int (xs ((4 * q) + 1)), .int (xs ((4 * q) + 2)), .int (xs ((4 * q) + 3))]) (rest := []) ⟨hx, hb, hml, hown, hta⟩ (c_Mtold l dC dI b d cd wn mn fk fa T ks2 ct2 sm2 le2 gr2 hrep2 (xs ((4 * q) + 1)) (xs ((4 * q) + 2)) (xs ((4 * q) + 3)) H.size) (cwV 3 hta (gV w394 w395 w396 w2 w397) rfl rfl rfl (by decide +kernel) ⟨Nat.le_of_ble_eq_true rfl, Nat.le_of_ble_eq_true rfl⟩) ⟨gb_W, va_recv hKc hPc (ci := 1) (q0 := 0) rfl rfl, fun U hU hW => ⟨rfl, by rw [hU], by rw [hU]; exact hPc, va_K.moved hW.alike hKc, hDc.weaken (fun _ _ _ _ => trivial)⟩⟩ rfl rfl hl.1 rfl (lv_room (Nat.le_of_ble_eq_true rfl)) dL_law_696 ⟨by show 18 + q + 1 + 0 ≤ 1056; omega, by show 67055 + 6 * q + 6 + 0 ≤ 75331; omega⟩) hS (fun q _ h => hFc q h) hFc (fun r_8 u2 t H1 locs ht hvm hw2 hB2 hz1 hk1 hS => ?_)
    rw [if_pos hLg] at hw2
    subst hw2
    obtain ⟨ks3, ct3, sm3, le3, gr3, hr3, hP1, hK1, hD1⟩ := hB2.1 hLg
    rw [ht] at hP1
    obtain ⟨hP, hD⟩ := va_join (wr := ((wX a k (nI wn) (nI mn) (nI T.1) fk fa sl1 ks1 ct1 sm1 le1 gr1) ++ [(a9, .inl (k9, 1, .inr (.inl (vp_updL ov 0 (if (xs ((4 * q) + 3)) = 0 then T.2.2.2.1 (xs ((4 * q) + 1)).toNatClampNeg (xs ((4 * q) + 2)).toNatClampNeg else if (xs ((4 * q) + 3)) = 1 then T.2.2.2.2.1 (xs ((4 * q) + 1)).toNatClampNeg (xs ((4 * q) + 2)).toNatClampNeg else T.2.2.2.2.2 (xs ((4 * q) + 1)).toNatClampNeg (xs ((4 * q) + 2)).toNatClampNeg)))))])) (w1 := (wM b d 0 (nI wn) (nI mn) (nI T.1) ks3 ct3 sm3 le3 gr3 fk fa)) hP hD [9, 10, 11, 12, 13, 14, 15, 16] [0, 1, 2, 3, 4, 5, 6, 7, 8, 17] rfl rfl (by decide) (by decide) hk1 hFc hP1 hD1
    have hP := hP.sub (ws' := ((wX a k (nI wn) (nI mn) (nI T.1) fk fa sl1 ks1 ct1 sm1 le1 gr1) ++ (wM b d 0 (nI wn) (nI mn) (nI T.1) ks3 ct3 sm3 le3 gr3 fk fa) ++ [(a9, .inl (k9, 1, .inr (.inl (vp_updL ov 0 (if (xs ((4 * q) + 3)) = 0 then T.2.2.2.1 (xs ((4 * q) + 1)).toNatClampNeg (xs ((4 * q) + 2)).toNatClampNeg else if (xs ((4 * q) + 3)) = 1 then T.2.2.2.2.1 (xs ((4 * q) + 1)).toNatClampNeg (xs ((4 * q) + 2)).toNatClampNeg else T.2.2.2.2.2 (xs ((4 * q) + 1)).toNatClampNeg (xs ((4 * q) + 2)).toNatClampNeg)))))])) [0, 1, 2, 3, 4, 5, 6, 7, 8, 10, 11, 12, 13, 14, 15, 16, 17, 9] rfl
    have hD := hD.sub (ws' := ((wX a k (nI wn) (nI mn) (nI T.1) fk fa sl1 ks1 ct1 sm1 le1 gr1) ++ (wM b d 0 (nI wn) (nI mn) (nI T.1) ks3 ct3 sm3 le3 gr3 fk fa) ++ [(a9, .inl (k9, 1, .inr (.inl (vp_updL ov 0 (if (xs ((4 * q) + 3)) = 0 then T.2.2.2.1 (xs ((4 * q) + 1)).toNatClampNeg (xs ((4 * q) + 2)).toNatClampNeg else if (xs ((4 * q) + 3)) = 1 then T.2.2.2.2.1 (xs ((4 * q) + 1)).toNatClampNeg (xs ((4 * q) + 2)).toNatClampNeg else T.2.2.2.2.2 (xs ((4 * q) + 1)).toNatClampNeg (xs ((4 * q) + 2)).toNatClampNeg)))))])) [0, 1, 2, 3, 4, 5, 6, 7, 8, 10, 11, 12, 13, 14, 15, 16, 17, 9] (by decide) rfl
    have hP : va_P (dC, dI) classes ((wX a k (nI wn) (nI mn) (nI T.1) fk fa sl1 ks1 ct1 sm1 le1 gr1) ++ (wM b d 0 (nI wn) (nI mn) (nI T.1) ks3 ct3 sm3 le3 gr3 fk fa) ++ [(a9, .inl (k9, 1, .inr (.inl (vp_updL ov 0 (if (xs ((4 * q) + 3)) = 0 then T.2.2.2.1 (xs ((4 * q) + 1)).toNatClampNeg (xs ((4 * q) + 2)).toNatClampNeg else if (xs ((4 * q) + 3)) = 1 then T.2.2.2.2.1 (xs ((4 * q) + 1)).toNatClampNeg (xs ((4 * q) + 2)).toNatClampNeg else T.2.2.2.2.2 (xs ((4 * q) + 1)).toNatClampNeg (xs ((4 * q) + 2)).toNatClampNeg)))))]) H1 := hP
    have hD : va_D (fun q : Nat => s.heap.size ≤ q) ((wX a k (nI wn) (nI mn) (nI T.1) fk fa sl1 ks1 ct1 sm1 le1 gr1) ++ (wM b d 0 (nI wn) (nI mn) (nI T.1) ks3 ct3 sm3 le3 gr3 fk fa) ++ [(a9, .inl (k9, 1, .inr (.inl (vp_updL ov 0 (if (xs ((4 * q) + 3)) = 0 then T.2.2.2.1 (xs ((4 * q) + 1)).toNatClampNeg (xs ((4 * q) + 2)).toNatClampNeg else if (xs ((4 * q) + 3)) = 1 then T.2.2.2.2.1 (xs ((4 * q) + 1)).toNatClampNeg (xs ((4 * q) + 2)).toNatClampNeg else T.2.2.2.2.2 (xs ((4 * q) + 1)).toNatClampNeg (xs ((4 * q) + 2)).toNatClampNeg)))))]) := hD
    generalize H1 = H at hP hS ⊢
    have hP : va_P (dC, dI) classes ((wX a k (nI wn) (nI mn) (nI T.1) fk fa sl1 ks1 ct1 sm1 le1 gr1) ++ (wM b d 0 (nI wn) (nI mn) (nI T.1) ks3 ct3 sm3 le3 gr3 fk fa) ++ [(a9, .inl (k9, 1, .inr (.inl (vp_updL ov 0 (if (xs ((4 * q) + 3)) = 0 then T.2.2.2.1 (xs ((4 * q) + 1)).toNatClampNeg (xs ((4 * q) + 2)).toNatClampNeg else if (xs ((4 * q) + 3)) = 1 then T.2.2.2.2.1 (xs ((4 * q) + 1)).toNatClampNeg (xs ((4 * q) + 2)).toNatClampNeg else T.2.2.2.2.2 (xs ((4 * q) + 1)).toNatClampNeg (xs ((4 * q) + 2)).toNatClampNeg)))))]) H := hP
    have hD : va_D (fun q : Nat => s.heap.size ≤ q) ((wX a k (nI wn) (nI mn) (nI T.1) fk fa sl1 ks1 ct1 sm1 le1 gr1) ++ (wM b d 0 (nI wn) (nI mn) (nI T.1) ks3 ct3 sm3 le3 gr3 fk fa) ++ [(a9, .inl (k9, 1, .inr (.inl (vp_updL ov 0 (if (xs ((4 * q) + 3)) = 0 then T.2.2.2.1 (xs ((4 * q) + 1)).toNatClampNeg (xs ((4 * q) + 2)).toNatClampNeg else if (xs ((4 * q) + 3)) = 1 then T.2.2.2.2.1 (xs ((4 * q) + 1)).toNatClampNeg (xs ((4 * q) + 2)).toNatClampNeg else T.2.2.2.2.2 (xs ((4 * q) + 1)).toNatClampNeg (xs ((4 * q) + 2)).toNatClampNeg)))))]) := hD
    show W p l e room_1 s m #[Value.ref sb] below meth c H locs (18 + q + 1 + 0) (67055 + 6 * q + 6 + 0) (lw_Z below #[Value.ref sb] s) (F0 m 699 ls [.long (if (xs ((4 * q) + 3)) = 0 then T.2.2.2.1 (xs ((4 * q) + 1)).toNatClampNeg (xs ((4 * q) + 2)).toNatClampNeg else if (xs ((4 * q) + 3)) = 1 then T.2.2.2.2.1 (xs ((4 * q) + 1)).toNatClampNeg (xs ((4 * q) + 2)).toNatClampNeg else T.2.2.2.2.2 (xs ((4 * q) + 1)).toNatClampNeg (xs ((4 * q) + 2)).toNatClampNeg)])
    refine lv_lstore (lv' := [(6, .long (if (xs ((4 * q) + 3)) = 0 then T.2.2.2.1 (xs ((4 * q) + 1)).toNatClampNeg (xs ((4 * q) + 2)).toNatClampNeg else if (xs ((4 * q) + 3)) = 1 then T.2.2.2.2.1 (xs ((4 * q) + 1)).toNatClampNeg (xs ((4 * q) + 2)).toNatClampNeg else T.2.2.2.2.2 (xs ((4 * q) + 1)).toNatClampNeg (xs ((4 * q) + 2)).toNatClampNeg)), (5, .int 0), (0, .ref sb), (1, .ref (a 0)), (2, .ref (b 0)), (3, .ref a9), (4, .int (nI (4 * q)))]) hx hb dL_law_699 hl (by decide) rfl (fun ls hl => ?_)
    refine lv_aload_n hx hb dL_law_701 rfl (lv_at hl 4 rfl) ?_
    refine gi_callR (v := .int 0) (W.runV (As := []) (rest := []) ⟨hx, hb, hml, hown, hta⟩ (c_thrown l dC dI b d 0 (nI wn) (nI mn) (nI T.1) ks3 ct3 sm3 le3 gr3 fk fa) (cwV 0 hta (gV w312 w313 w314 w2 w315) rfl rfl rfl (by decide +kernel) ⟨Nat.le_of_ble_eq_true rfl, Nat.le_of_ble_eq_true rfl⟩) ⟨gb_R, va_recv hK hP (ci := 1) (q0 := 9) rfl rfl, fun U hU hW => ⟨rfl, by rw [hU]; exact hP.sub (ws' := (wM b d 0 (nI wn) (nI mn) (nI T.1) ks3 ct3 sm3 le3 gr3 fk fa)) [9, 10, 11, 12, 13, 14, 15, 16] rfl, va_K.moved hW.alike (hK.sub (tys' := kM d) [8, 9, 10, 11, 12, 13, 14] rfl)⟩⟩ rfl rfl hl.1 rfl (lv_room (Nat.le_of_ble_eq_true rfl)) dL_law_702 ⟨by show 18 + q + 1 + 0 ≤ 1056; omega, by show 67055 + 6 * q + 6 + 0 ≤ 75331; omega⟩) ?_
    refine lv_iload hx hb dL_law_705 (lv_at hl 1 rfl) ?_
    refine lv_icmp_eq (tgt := 712) hx hb dL_law_707 (by decide) (fun h1 => ?_) (fun h1 => ?_)
    rotate_left
    · skip
      exact absurd rfl h1
    · skip
      refine lv_iload hx hb dL_law_712 (lv_at hl 1 rfl) ?_
      refine lv_if_ne (tgt := 728) hx hb dL_law_714 (by decide) (fun h2 => ?_) (fun h2 => ?_)
      · skip
        exact absurd rfl h2
      · skip
        refine lv_aload_n hx hb dL_law_717 rfl (lv_at hl 5 rfl) ?_
        refine lv_iconst (v := 0) hx hb dL_law_718 (by decide) ?_
        refine gi_as (y := nI 0) (nI_0.symm) ?_
        refine gi_lald hx hb hK hP 17 15 rfl rfl (k := 0) (by omega) (by decide) dL_law_719 ?_
        refine gi_asl (y := (if (xs ((4 * q) + 3)) = 0 then T.2.2.2.1 (xs ((4 * q) + 1)).toNatClampNeg (xs ((4 * q) + 2)).toNatClampNeg else if (xs ((4 * q) + 3)) = 1 then T.2.2.2.2.1 (xs ((4 * q) + 1)).toNatClampNeg (xs ((4 * q) + 2)).toNatClampNeg else T.2.2.2.2.2 (xs ((4 * q) + 1)).toNatClampNeg (xs ((4 * q) + 2)).toNatClampNeg)) (pk_uLs) ?_
        refine lv_lload hx hb dL_law_720 (lv_at hl 0 rfl) ?_
        refine W.lcmp (x := (if (xs ((4 * q) + 3)) = 0 then T.2.2.2.1 (xs ((4 * q) + 1)).toNatClampNeg (xs ((4 * q) + 2)).toNatClampNeg else if (xs ((4 * q) + 3)) = 1 then T.2.2.2.2.1 (xs ((4 * q) + 1)).toNatClampNeg (xs ((4 * q) + 2)).toNatClampNeg else T.2.2.2.2.2 (xs ((4 * q) + 1)).toNatClampNeg (xs ((4 * q) + 2)).toNatClampNeg)) (y := (if (xs ((4 * q) + 3)) = 0 then T.2.2.2.1 (xs ((4 * q) + 1)).toNatClampNeg (xs ((4 * q) + 2)).toNatClampNeg else if (xs ((4 * q) + 3)) = 1 then T.2.2.2.2.1 (xs ((4 * q) + 1)).toNatClampNeg (xs ((4 * q) + 2)).toNatClampNeg else T.2.2.2.2.2 (xs ((4 * q) + 1)).toNatClampNeg (xs ((4 * q) + 2)).toNatClampNeg)) hx hb dL_law_722 ?_
        refine lv_if_eq (tgt := 728) hx hb dL_law_723 (by decide) (fun h3 => ?_) (fun h3 => ?_)
        · skip
          refine lv_goto (tgt := 731) hx hb dL_law_728 (by decide) ?_
          have hl := lv_sub hl [2, 3, 4, 5, 6] rfl
          have hl : lv_has ls 8 [(0, .ref sb), (1, .ref (a 0)), (2, .ref (b 0)), (3, .ref a9), (4, .int (nI (4 * q)))] := hl
          exact nxt _ _ _ _ _ _ _ _ _ ls ⟨σ1, sl1, ks1, ct1, sm1, le1, gr1, ks3, ct3, sm3, le3, gr3, hσ1, hr1, hr3, hP, hD, hS⟩ hl
        · skip
          exact absurd ((lg_cmp_eq _ _).mpr rfl) h3
  · skip
    rw [if_neg hLg] at hw
    subst hw
    obtain ⟨σ1, sl1, ks1, ct1, sm1, le1, gr1, ⟨hσ1, hr1⟩, hP1, hK1, hD1⟩ := hB.2 hLg
    rw [ht] at hP1
    obtain ⟨hP, hD⟩ := va_join (wr := (wM b d cd (nI wn) (nI mn) (nI T.1) ks2 ct2 sm2 le2 gr2 fk fa)) (w1 := ((wX a k (nI wn) (nI mn) (nI T.1) fk fa sl1 ks1 ct1 sm1 le1 gr1) ++ [(a9, .inl (k9, 1, .inr (.inl ov)))])) hP hD [0, 1, 2, 3, 4, 5, 6, 7, 8, 17] [9, 10, 11, 12, 13, 14, 15, 16] rfl rfl (by decide) (by decide) hk1 hFc hP1 hD1
    have hP := hP.sub (ws' := ((wX a k (nI wn) (nI mn) (nI T.1) fk fa sl1 ks1 ct1 sm1 le1 gr1) ++ (wM b d cd (nI wn) (nI mn) (nI T.1) ks2 ct2 sm2 le2 gr2 fk fa) ++ [(a9, .inl (k9, 1, .inr (.inl ov)))])) [8, 9, 10, 11, 12, 13, 14, 15, 16, 0, 1, 2, 3, 4, 5, 6, 7, 17] rfl
    have hD := hD.sub (ws' := ((wX a k (nI wn) (nI mn) (nI T.1) fk fa sl1 ks1 ct1 sm1 le1 gr1) ++ (wM b d cd (nI wn) (nI mn) (nI T.1) ks2 ct2 sm2 le2 gr2 fk fa) ++ [(a9, .inl (k9, 1, .inr (.inl ov)))])) [8, 9, 10, 11, 12, 13, 14, 15, 16, 0, 1, 2, 3, 4, 5, 6, 7, 17] (by decide) rfl
    have hP : va_P (dC, dI) classes ((wX a k (nI wn) (nI mn) (nI T.1) fk fa sl1 ks1 ct1 sm1 le1 gr1) ++ (wM b d cd (nI wn) (nI mn) (nI T.1) ks2 ct2 sm2 le2 gr2 fk fa) ++ [(a9, .inl (k9, 1, .inr (.inl ov)))]) H1 := hP
    have hD : va_D (fun q : Nat => s.heap.size ≤ q) ((wX a k (nI wn) (nI mn) (nI T.1) fk fa sl1 ks1 ct1 sm1 le1 gr1) ++ (wM b d cd (nI wn) (nI mn) (nI T.1) ks2 ct2 sm2 le2 gr2 fk fa) ++ [(a9, .inl (k9, 1, .inr (.inl ov)))]) := hD
    generalize H1 = H at hP hS ⊢
    have hP : va_P (dC, dI) classes ((wX a k (nI wn) (nI mn) (nI T.1) fk fa sl1 ks1 ct1 sm1 le1 gr1) ++ (wM b d cd (nI wn) (nI mn) (nI T.1) ks2 ct2 sm2 le2 gr2 fk fa) ++ [(a9, .inl (k9, 1, .inr (.inl ov)))]) H := hP
    have hD : va_D (fun q : Nat => s.heap.size ≤ q) ((wX a k (nI wn) (nI mn) (nI T.1) fk fa sl1 ks1 ct1 sm1 le1 gr1) ++ (wM b d cd (nI wn) (nI mn) (nI T.1) ks2 ct2 sm2 le2 gr2 fk fa) ++ [(a9, .inl (k9, 1, .inr (.inl ov)))]) := hD
    show W p l e room_1 s m #[Value.ref sb] below meth c H locs (18 + q + 1) (67055 + 6 * q + 6) (lw_Z below #[Value.ref sb] s) (F0 m 675 ls [.int 1])
    refine lv_istore (lv' := [(5, .int 1), (0, .ref sb), (1, .ref (a 0)), (2, .ref (b 0)), (3, .ref a9), (4, .int (nI (4 * q)))]) hx hb dL_law_675 hl (by decide) rfl (fun ls hl => ?_)
    refine lv_aload_n hx hb dL_law_677 rfl (lv_at hl 3 rfl) ?_
    refine lv_aload_n hx hb dL_law_678 rfl (lv_at hl 1 rfl) ?_
    refine lv_iload hx hb dL_law_679 (lv_at hl 5 rfl) ?_
    refine lv_iconst (v := 1) hx hb dL_law_681 (by decide) ?_
    refine lv_iadd hx hb dL_law_682 ?_
    refine gi_as (y := nI ((4 * q) + 1)) (nI_1 _) ?_
    refine va_sld hx hb hX hbl hbA hS (vp_in_nI (n := ((4 * q) + 1)) (by omega) (by omega)) dL_law_683 ?_
    refine gi_as (y := xs ((4 * q) + 1)) (by rw [nI_clamp (by omega)]) ?_
    refine lv_aload_n hx hb dL_law_684 rfl (lv_at hl 1 rfl) ?_
    refine lv_iload hx hb dL_law_685 (lv_at hl 5 rfl) ?_
    refine lv_iconst (v := 2) hx hb dL_law_687 (by decide) ?_
    refine lv_iadd hx hb dL_law_688 ?_
    refine gi_as (y := nI ((4 * q) + 2)) (nI_add _ 2) ?_
    refine va_sld hx hb hX hbl hbA hS (vp_in_nI (n := ((4 * q) + 2)) (by omega) (by omega)) dL_law_689 ?_
    refine gi_as (y := xs ((4 * q) + 2)) (by rw [nI_clamp (by omega)]) ?_
    refine lv_aload_n hx hb dL_law_690 rfl (lv_at hl 1 rfl) ?_
    refine lv_iload hx hb dL_law_691 (lv_at hl 5 rfl) ?_
    refine lv_iconst (v := 3) hx hb dL_law_693 (by decide) ?_
    refine lv_iadd hx hb dL_law_694 ?_
    refine gi_as (y := nI ((4 * q) + 3)) (nI_add _ 3) ?_
    refine va_sld hx hb hX hbl hbA hS (vp_in_nI (n := ((4 * q) + 3)) (by omega) (by omega)) dL_law_695 ?_
    refine gi_as (y := xs ((4 * q) + 3)) (by rw [nI_clamp (by omega)]) ?_
    have hPc := hP.sub (ws' := (wM b d cd (nI wn) (nI mn) (nI T.1) ks2 ct2 sm2 le2 gr2 fk fa)) [9, 10, 11, 12, 13, 14, 15, 16] rfl
    have hDc := hD.sub (ws' := (wM b d cd (nI wn) (nI mn) (nI T.1) ks2 ct2 sm2 le2 gr2 fk fa)) [9, 10, 11, 12, 13, 14, 15, 16] (by decide) rfl
    have hKc := hK.sub (tys' := (kM d)) [8, 9, 10, 11, 12, 13, 14] rfl
    have hFc := va_free (wc := (wM b d cd (nI wn) (nI mn) (nI T.1) ks2 ct2 sm2 le2 gr2 fk fa)) hD hS hA [9, 10, 11, 12, 13, 14, 15, 16] rfl
    refine va_calll (va_runV (As := [.int (xs ((4 * q) + 1)), .int (xs ((4 * q) + 2)), .int (xs ((4 * q) + 3))]) (rest := []) ⟨hx, hb, hml, hown, hta⟩ (c_Mtold l dC dI b d cd wn mn fk fa T ks2 ct2 sm2 le2 gr2 hrep2 (xs ((4 * q) + 1)) (xs ((4 * q) + 2)) (xs ((4 * q) + 3)) H.size) (cwV 3 hta (gV w394 w395 w396 w2 w397) rfl rfl rfl (by decide +kernel) ⟨Nat.le_of_ble_eq_true rfl, Nat.le_of_ble_eq_true rfl⟩) ⟨gb_W, va_recv hKc hPc (ci := 1) (q0 := 0) rfl rfl, fun U hU hW => ⟨rfl, by rw [hU], by rw [hU]; exact hPc, va_K.moved hW.alike hKc, hDc.weaken (fun _ _ _ _ => trivial)⟩⟩ rfl rfl hl.1 rfl (lv_room (Nat.le_of_ble_eq_true rfl)) dL_law_696 ⟨by show 18 + q + 1 + 0 ≤ 1056; omega, by show 67055 + 6 * q + 6 + 0 ≤ 75331; omega⟩) hS (fun q _ h => hFc q h) hFc (fun r_8 u2 t H1 locs ht hvm hw2 hB2 hz1 hk1 hS => ?_)
    rw [if_neg hLg] at hw2
    subst hw2
    obtain ⟨ks3, ct3, sm3, le3, gr3, hr3, hP1, hK1, hD1⟩ := hB2.2 hLg
    rw [ht] at hP1
    obtain ⟨hP, hD⟩ := va_join (wr := ((wX a k (nI wn) (nI mn) (nI T.1) fk fa sl1 ks1 ct1 sm1 le1 gr1) ++ [(a9, .inl (k9, 1, .inr (.inl ov)))])) (w1 := (wM b d 1 (nI wn) (nI mn) (nI T.1) ks3 ct3 sm3 le3 gr3 fk fa)) hP hD [9, 10, 11, 12, 13, 14, 15, 16] [0, 1, 2, 3, 4, 5, 6, 7, 8, 17] rfl rfl (by decide) (by decide) hk1 hFc hP1 hD1
    have hP := hP.sub (ws' := ((wX a k (nI wn) (nI mn) (nI T.1) fk fa sl1 ks1 ct1 sm1 le1 gr1) ++ (wM b d 1 (nI wn) (nI mn) (nI T.1) ks3 ct3 sm3 le3 gr3 fk fa) ++ [(a9, .inl (k9, 1, .inr (.inl ov)))])) [0, 1, 2, 3, 4, 5, 6, 7, 8, 10, 11, 12, 13, 14, 15, 16, 17, 9] rfl
    have hD := hD.sub (ws' := ((wX a k (nI wn) (nI mn) (nI T.1) fk fa sl1 ks1 ct1 sm1 le1 gr1) ++ (wM b d 1 (nI wn) (nI mn) (nI T.1) ks3 ct3 sm3 le3 gr3 fk fa) ++ [(a9, .inl (k9, 1, .inr (.inl ov)))])) [0, 1, 2, 3, 4, 5, 6, 7, 8, 10, 11, 12, 13, 14, 15, 16, 17, 9] (by decide) rfl
    have hP : va_P (dC, dI) classes ((wX a k (nI wn) (nI mn) (nI T.1) fk fa sl1 ks1 ct1 sm1 le1 gr1) ++ (wM b d 1 (nI wn) (nI mn) (nI T.1) ks3 ct3 sm3 le3 gr3 fk fa) ++ [(a9, .inl (k9, 1, .inr (.inl ov)))]) H1 := hP
    have hD : va_D (fun q : Nat => s.heap.size ≤ q) ((wX a k (nI wn) (nI mn) (nI T.1) fk fa sl1 ks1 ct1 sm1 le1 gr1) ++ (wM b d 1 (nI wn) (nI mn) (nI T.1) ks3 ct3 sm3 le3 gr3 fk fa) ++ [(a9, .inl (k9, 1, .inr (.inl ov)))]) := hD
    generalize H1 = H at hP hS ⊢
    have hP : va_P (dC, dI) classes ((wX a k (nI wn) (nI mn) (nI T.1) fk fa sl1 ks1 ct1 sm1 le1 gr1) ++ (wM b d 1 (nI wn) (nI mn) (nI T.1) ks3 ct3 sm3 le3 gr3 fk fa) ++ [(a9, .inl (k9, 1, .inr (.inl ov)))]) H := hP
    have hD : va_D (fun q : Nat => s.heap.size ≤ q) ((wX a k (nI wn) (nI mn) (nI T.1) fk fa sl1 ks1 ct1 sm1 le1 gr1) ++ (wM b d 1 (nI wn) (nI mn) (nI T.1) ks3 ct3 sm3 le3 gr3 fk fa) ++ [(a9, .inl (k9, 1, .inr (.inl ov)))]) := hD
    show W p l e room_1 s m #[Value.ref sb] below meth c H locs (18 + q + 1 + 0) (67055 + 6 * q + 6 + 0) (lw_Z below #[Value.ref sb] s) (F0 m 699 ls [.long 0])
    refine lv_lstore (lv' := [(6, .long 0), (5, .int 1), (0, .ref sb), (1, .ref (a 0)), (2, .ref (b 0)), (3, .ref a9), (4, .int (nI (4 * q)))]) hx hb dL_law_699 hl (by decide) rfl (fun ls hl => ?_)
    refine lv_aload_n hx hb dL_law_701 rfl (lv_at hl 4 rfl) ?_
    refine gi_callR (v := .int 1) (W.runV (As := []) (rest := []) ⟨hx, hb, hml, hown, hta⟩ (c_thrown l dC dI b d 1 (nI wn) (nI mn) (nI T.1) ks3 ct3 sm3 le3 gr3 fk fa) (cwV 0 hta (gV w312 w313 w314 w2 w315) rfl rfl rfl (by decide +kernel) ⟨Nat.le_of_ble_eq_true rfl, Nat.le_of_ble_eq_true rfl⟩) ⟨gb_R, va_recv hK hP (ci := 1) (q0 := 9) rfl rfl, fun U hU hW => ⟨rfl, by rw [hU]; exact hP.sub (ws' := (wM b d 1 (nI wn) (nI mn) (nI T.1) ks3 ct3 sm3 le3 gr3 fk fa)) [9, 10, 11, 12, 13, 14, 15, 16] rfl, va_K.moved hW.alike (hK.sub (tys' := kM d) [8, 9, 10, 11, 12, 13, 14] rfl)⟩⟩ rfl rfl hl.1 rfl (lv_room (Nat.le_of_ble_eq_true rfl)) dL_law_702 ⟨by show 18 + q + 1 + 0 ≤ 1056; omega, by show 67055 + 6 * q + 6 + 0 ≤ 75331; omega⟩) ?_
    refine lv_iload hx hb dL_law_705 (lv_at hl 1 rfl) ?_
    refine lv_icmp_eq (tgt := 712) hx hb dL_law_707 (by decide) (fun h1 => ?_) (fun h1 => ?_)
    rotate_left
    · skip
      exact absurd rfl h1
    · skip
      refine lv_iload hx hb dL_law_712 (lv_at hl 1 rfl) ?_
      refine lv_if_ne (tgt := 728) hx hb dL_law_714 (by decide) (fun h2 => ?_) (fun h2 => ?_)
      · skip
        refine lv_goto (tgt := 731) hx hb dL_law_728 (by decide) ?_
        have hl := lv_sub hl [2, 3, 4, 5, 6] rfl
        have hl : lv_has ls 8 [(0, .ref sb), (1, .ref (a 0)), (2, .ref (b 0)), (3, .ref a9), (4, .int (nI (4 * q)))] := hl
        exact nxt _ _ _ _ _ _ _ _ _ ls ⟨σ1, sl1, ks1, ct1, sm1, le1, gr1, ks3, ct3, sm3, le3, gr3, hσ1, hr1, hr3, hP, hD, hS⟩ hl
      · skip
        exact absurd h2 (by decide)
