set_option maxHeartbeats 4000000 in
set_option maxRecDepth 100000 in
/-- the law at key -/
theorem lc_key {p : Program} {l : Launch} {e : Env} {s : State} {m : MethodId} {below : List Frame} {meth : Method} {c : Code} {dC : Nat → ClassId} {dI : Nat → Nat → Nat} {sb L : Nat} {xs : Nat → Int32} {a : Nat → Nat} {k : Nat → ClassId} {b : Nat → Nat} {d : Nat → ClassId} {a9 : Nat} {k9 : ClassId} (hnt : l.stackTraces = false) (hL : L ≤ 2048) (C0 : lw_At p s m meth c sb L xs) (hT : thrE (fun q : Nat => s.heap.size ≤ q) s s.heap) (hK : va_K (dC, dI) classes (kX k ++ kM d ++ [(k9, .long)]) s) (q : Nat) (hq : 4 * q + 4 ≤ L) (nxt : (∀ (wn mn : Nat) (fk : Nat → Int32) (fa : Nat → Int64) (T : TB) (cd : Int32) (ov : Nat → Int64) (H : Heap) (locs : List Loc) (ls : Array Slot), lwI dC dI a k b d a9 k9 s H locs wn mn fk fa T cd ov → lv_has ls 8 [(0, .ref sb), (1, .ref (a 0)), (2, .ref (b 0)), (3, .ref a9), (4, .int (nI (4 * q)))] → W p l e room_1 s m #[Value.ref sb] below meth c H locs (18 + q + 1) (67055 + 6 * q + 6) (lw_Z below #[Value.ref sb] s) (F0 m 731 ls []))) (wn mn : Nat) (fk : Nat → Int32) (fa : Nat → Int64) (T : TB) (cd : Int32) (ov : Nat → Int64) (H : Heap) (locs : List Loc) (ls : Array Slot) (hI : lwI dC dI a k b d a9 k9 s H locs wn mn fk fa T cd ov) (hl : lv_has ls 8 [(0, .ref sb), (1, .ref (a 0)), (2, .ref (b 0)), (3, .ref a9), (4, .int (nI (4 * q)))]) : W p l e room_1 s m #[Value.ref sb] below meth c H locs (18 + q) (67055 + 6 * q) (lw_Z below #[Value.ref sb] s) (F0 m 144 ls []) := by
  obtain ⟨hx, hb, hr, hml, hown, hts, hX, hbl, hlocks, hgv⟩ := C0
  have hta : ∀ w ∈ wAll, w.before #[Value.ref sb] s = true := fun w h => hts w (wA_tbl h)
  have hown : s.vm.findClass "GroupRowsLaw" = some m.cls := hown
  have hA : ∀ q : Nat, s.heap.size ≤ q → (fun q : Nat => s.heap.size ≤ q) q := fun _ h => h
  have hbA : ¬ (fun q : Nat => s.heap.size ≤ q) sb := Nat.not_le.mpr hbl
  obtain ⟨σ, sl, ks, ct, sm, le, gr, ks2, ct2, sm2, le2, gr2, hσ, hrep, hrep2, hP, hD, hS⟩ := hI
  have hP : va_P (dC, dI) classes ((wX a k (nI wn) (nI mn) (nI T.1) fk fa sl ks ct sm le gr) ++ (wM b d cd (nI wn) (nI mn) (nI T.1) ks2 ct2 sm2 le2 gr2 fk fa) ++ [(a9, .inl (k9, 1, .inr (.inl ov)))]) H := hP
  have hD : va_D (fun q : Nat => s.heap.size ≤ q) ((wX a k (nI wn) (nI mn) (nI T.1) fk fa sl ks ct sm le gr) ++ (wM b d cd (nI wn) (nI mn) (nI T.1) ks2 ct2 sm2 le2 gr2 fk fa) ++ [(a9, .inl (k9, 1, .inr (.inl ov)))]) := hD
  refine lv_aload_n hx hb dL_law_144 rfl (lv_at hl 1 rfl) ?_
  refine lv_aload_n hx hb dL_law_145 rfl (lv_at hl 0 rfl) ?_
  refine lv_iload hx hb dL_law_146 (lv_at hl 4 rfl) ?_
  refine lv_iconst (v := 1) hx hb dL_law_148 (by decide) ?_
  refine lv_iadd hx hb dL_law_149 ?_
  refine gi_as (y := nI ((4 * q) + 1)) (nI_1 _) ?_
  refine va_sld hx hb hX hbl hbA hS (vp_in_nI (n := ((4 * q) + 1)) (by omega) (by omega)) dL_law_150 ?_
  refine gi_as (y := xs ((4 * q) + 1)) (by rw [nI_clamp (by omega)]) ?_
  refine lv_aload_n hx hb dL_law_151 rfl (lv_at hl 0 rfl) ?_
  refine lv_iload hx hb dL_law_152 (lv_at hl 4 rfl) ?_
  refine lv_iconst (v := 2) hx hb dL_law_154 (by decide) ?_
  refine lv_iadd hx hb dL_law_155 ?_
  refine gi_as (y := nI ((4 * q) + 2)) (nI_add _ 2) ?_
  refine va_sld hx hb hX hbl hbA hS (vp_in_nI (n := ((4 * q) + 2)) (by omega) (by omega)) dL_law_156 ?_
  refine gi_as (y := xs ((4 * q) + 2)) (by rw [nI_clamp (by omega)]) ?_
  refine lv_aload_n hx hb dL_law_157 rfl (lv_at hl 3 rfl) ?_
  have hPc := hP.sub (ws' := ((wX a k (nI wn) (nI mn) (nI T.1) fk fa sl ks ct sm le gr) ++ [(a9, .inl (k9, 1, .inr (.inl ov)))])) [0, 1, 2, 3, 4, 5, 6, 7, 8, 17] rfl
  have hDc := hD.sub (ws' := ((wX a k (nI wn) (nI mn) (nI T.1) fk fa sl ks ct sm le gr) ++ [(a9, .inl (k9, 1, .inr (.inl ov)))])) [0, 1, 2, 3, 4, 5, 6, 7, 8, 17] (by decide) rfl
  have hKc := hK.sub (tys' := ((kX k) ++ [(k9, .long)])) [0, 1, 2, 3, 4, 5, 6, 7, 15] rfl
  have hFc := va_free (wc := ((wX a k (nI wn) (nI mn) (nI T.1) fk fa sl ks ct sm le gr) ++ [(a9, .inl (k9, 1, .inr (.inl ov)))])) hD hS hA [0, 1, 2, 3, 4, 5, 6, 7, 8, 17] rfl
  refine va_calli (vx_runSW (As := [.ref (a 0), .int (xs ((4 * q) + 1)), .int (xs ((4 * q) + 2)), .ref a9]) (rest := []) ⟨hx, hb, hml, hown, hta⟩ (c_Lkey l hnt dC dI a k wn mn fk fa T σ sl ks ct sm le gr hσ hrep a9 k9 ov (xs ((4 * q) + 1)) (xs ((4 * q) + 2)) H.size) (vx_cwSW 4 hta (gSW w159 w160 w0 w161) rfl rfl rfl (by decide +kernel) ⟨Nat.le_of_ble_eq_true rfl, Nat.le_of_ble_eq_true rfl⟩) ⟨gb_X, fun U hU hW => ⟨rfl, by rw [hU], by rw [hU]; exact hPc, va_K.moved hW.alike hKc, hDc.weaken (fun _ _ _ _ => trivial), by rw [hU]; exact ((thrE.warm hW hT).kept hS.2.1).narrow hFc⟩⟩ rfl rfl hl.1 rfl (lv_room (Nat.le_of_ble_eq_true rfl)) dL_law_158 ⟨by show 18 + q + 1 ≤ 1056; omega, by show 67055 + 6 * q + 6 ≤ 75331; omega⟩) hS (fun q _ h => hFc q h) hFc (fun r_9 u t H1 locs ht hvm hw hB hz1 hk1 hS => ?_)
  by_cases hLg : 0 ≤ (xs ((4 * q) + 1)) ∧ (xs ((4 * q) + 1)) < nI wn
  · skip
    rw [if_pos hLg] at hw
    subst hw
    obtain ⟨σ1, sl1, ks1, ct1, sm1, le1, gr1, ⟨hσ1, hr1⟩, hP1, hK1, hD1⟩ := hB.1 hLg
    rw [ht] at hP1
    obtain ⟨hP, hD⟩ := va_join (wr := (wM b d cd (nI wn) (nI mn) (nI T.1) ks2 ct2 sm2 le2 gr2 fk fa)) (w1 := ((wX a k (nI wn) (nI mn) (nI T.1) (upd fk (xs ((4 * q) + 1)).toNatClampNeg (xs ((4 * q) + 2))) fa sl1 ks1 ct1 sm1 le1 gr1) ++ [(a9, .inl (k9, 1, .inr (.inl (vp_updL ov 0 (fk (xs ((4 * q) + 1)).toNatClampNeg).toInt64))))])) hP hD [0, 1, 2, 3, 4, 5, 6, 7, 8, 17] [9, 10, 11, 12, 13, 14, 15, 16] rfl rfl (by decide) (by decide) hk1 hFc hP1 hD1
    have hP := hP.sub (ws' := ((wX a k (nI wn) (nI mn) (nI T.1) (upd fk (xs ((4 * q) + 1)).toNatClampNeg (xs ((4 * q) + 2))) fa sl1 ks1 ct1 sm1 le1 gr1) ++ (wM b d cd (nI wn) (nI mn) (nI T.1) ks2 ct2 sm2 le2 gr2 fk fa) ++ [(a9, .inl (k9, 1, .inr (.inl (vp_updL ov 0 (fk (xs ((4 * q) + 1)).toNatClampNeg).toInt64))))])) [8, 9, 10, 11, 12, 13, 14, 15, 16, 0, 1, 2, 3, 4, 5, 6, 7, 17] rfl
    have hD := hD.sub (ws' := ((wX a k (nI wn) (nI mn) (nI T.1) (upd fk (xs ((4 * q) + 1)).toNatClampNeg (xs ((4 * q) + 2))) fa sl1 ks1 ct1 sm1 le1 gr1) ++ (wM b d cd (nI wn) (nI mn) (nI T.1) ks2 ct2 sm2 le2 gr2 fk fa) ++ [(a9, .inl (k9, 1, .inr (.inl (vp_updL ov 0 (fk (xs ((4 * q) + 1)).toNatClampNeg).toInt64))))])) [8, 9, 10, 11, 12, 13, 14, 15, 16, 0, 1, 2, 3, 4, 5, 6, 7, 17] (by decide) rfl
    have hP : va_P (dC, dI) classes ((wX a k (nI wn) (nI mn) (nI T.1) (upd fk (xs ((4 * q) + 1)).toNatClampNeg (xs ((4 * q) + 2))) fa sl1 ks1 ct1 sm1 le1 gr1) ++ (wM b d cd (nI wn) (nI mn) (nI T.1) ks2 ct2 sm2 le2 gr2 fk fa) ++ [(a9, .inl (k9, 1, .inr (.inl (vp_updL ov 0 (fk (xs ((4 * q) + 1)).toNatClampNeg).toInt64))))]) H1 := hP
    have hD : va_D (fun q : Nat => s.heap.size ≤ q) ((wX a k (nI wn) (nI mn) (nI T.1) (upd fk (xs ((4 * q) + 1)).toNatClampNeg (xs ((4 * q) + 2))) fa sl1 ks1 ct1 sm1 le1 gr1) ++ (wM b d cd (nI wn) (nI mn) (nI T.1) ks2 ct2 sm2 le2 gr2 fk fa) ++ [(a9, .inl (k9, 1, .inr (.inl (vp_updL ov 0 (fk (xs ((4 * q) + 1)).toNatClampNeg).toInt64))))]) := hD
    generalize H1 = H at hP hS ⊢
    have hP : va_P (dC, dI) classes ((wX a k (nI wn) (nI mn) (nI T.1) (upd fk (xs ((4 * q) + 1)).toNatClampNeg (xs ((4 * q) + 2))) fa sl1 ks1 ct1 sm1 le1 gr1) ++ (wM b d cd (nI wn) (nI mn) (nI T.1) ks2 ct2 sm2 le2 gr2 fk fa) ++ [(a9, .inl (k9, 1, .inr (.inl (vp_updL ov 0 (fk (xs ((4 * q) + 1)).toNatClampNeg).toInt64))))]) H := hP
    have hD : va_D (fun q : Nat => s.heap.size ≤ q) ((wX a k (nI wn) (nI mn) (nI T.1) (upd fk (xs ((4 * q) + 1)).toNatClampNeg (xs ((4 * q) + 2))) fa sl1 ks1 ct1 sm1 le1 gr1) ++ (wM b d cd (nI wn) (nI mn) (nI T.1) ks2 ct2 sm2 le2 gr2 fk fa) ++ [(a9, .inl (k9, 1, .inr (.inl (vp_updL ov 0 (fk (xs ((4 * q) + 1)).toNatClampNeg).toInt64))))]) := hD
    show W p l e room_1 s m #[Value.ref sb] below meth c H locs (18 + q + 1) (67055 + 6 * q + 6) (lw_Z below #[Value.ref sb] s) (F0 m 161 ls [.int 0])
    refine lv_istore (lv' := [(5, .int 0), (0, .ref sb), (1, .ref (a 0)), (2, .ref (b 0)), (3, .ref a9), (4, .int (nI (4 * q)))]) hx hb dL_law_161 hl (by decide) rfl (fun ls hl => ?_)
    refine lv_aload_n hx hb dL_law_163 rfl (lv_at hl 3 rfl) ?_
    refine lv_aload_n hx hb dL_law_164 rfl (lv_at hl 1 rfl) ?_
    refine lv_iload hx hb dL_law_165 (lv_at hl 5 rfl) ?_
    refine lv_iconst (v := 1) hx hb dL_law_167 (by decide) ?_
    refine lv_iadd hx hb dL_law_168 ?_
    refine gi_as (y := nI ((4 * q) + 1)) (nI_1 _) ?_
    refine va_sld hx hb hX hbl hbA hS (vp_in_nI (n := ((4 * q) + 1)) (by omega) (by omega)) dL_law_169 ?_
    refine gi_as (y := xs ((4 * q) + 1)) (by rw [nI_clamp (by omega)]) ?_
    refine lv_aload_n hx hb dL_law_170 rfl (lv_at hl 1 rfl) ?_
    refine lv_iload hx hb dL_law_171 (lv_at hl 5 rfl) ?_
    refine lv_iconst (v := 2) hx hb dL_law_173 (by decide) ?_
    refine lv_iadd hx hb dL_law_174 ?_
    refine gi_as (y := nI ((4 * q) + 2)) (nI_add _ 2) ?_
    refine va_sld hx hb hX hbl hbA hS (vp_in_nI (n := ((4 * q) + 2)) (by omega) (by omega)) dL_law_175 ?_
    refine gi_as (y := xs ((4 * q) + 2)) (by rw [nI_clamp (by omega)]) ?_
    have hPc := hP.sub (ws' := (wM b d cd (nI wn) (nI mn) (nI T.1) ks2 ct2 sm2 le2 gr2 fk fa)) [9, 10, 11, 12, 13, 14, 15, 16] rfl
    have hDc := hD.sub (ws' := (wM b d cd (nI wn) (nI mn) (nI T.1) ks2 ct2 sm2 le2 gr2 fk fa)) [9, 10, 11, 12, 13, 14, 15, 16] (by decide) rfl
    have hKc := hK.sub (tys' := (kM d)) [8, 9, 10, 11, 12, 13, 14] rfl
    have hFc := va_free (wc := (wM b d cd (nI wn) (nI mn) (nI T.1) ks2 ct2 sm2 le2 gr2 fk fa)) hD hS hA [9, 10, 11, 12, 13, 14, 15, 16] rfl
    refine va_calli (va_runV (As := [.int (xs ((4 * q) + 1)), .int (xs ((4 * q) + 2))]) (rest := []) ⟨hx, hb, hml, hown, hta⟩ (c_Mkey l dC dI b d cd wn mn fk fa T ks2 ct2 sm2 le2 gr2 hrep2 (xs ((4 * q) + 1)) (xs ((4 * q) + 2)) H.size) (cwV 2 hta (gV w320 w321 w322 w2 w323) rfl rfl rfl (by decide +kernel) ⟨Nat.le_of_ble_eq_true rfl, Nat.le_of_ble_eq_true rfl⟩) ⟨gb_W, va_recv hKc hPc (ci := 1) (q0 := 0) rfl rfl, fun U hU hW => ⟨rfl, by rw [hU], by rw [hU]; exact hPc, va_K.moved hW.alike hKc, hDc.weaken (fun _ _ _ _ => trivial)⟩⟩ rfl rfl hl.1 rfl (lv_room (Nat.le_of_ble_eq_true rfl)) dL_law_176 ⟨by show 18 + q + 1 + 0 ≤ 1056; omega, by show 67055 + 6 * q + 6 + 0 ≤ 75331; omega⟩) hS (fun q _ h => hFc q h) hFc (fun r_8 u2 t H1 locs ht hvm hw2 hB2 hz1 hk1 hS => ?_)
    rw [if_pos hLg] at hw2
    subst hw2
    obtain ⟨ks3, ct3, sm3, le3, gr3, hr3, hP1, hK1, hD1⟩ := hB2.1 hLg
    rw [ht] at hP1
    obtain ⟨hP, hD⟩ := va_join (wr := ((wX a k (nI wn) (nI mn) (nI T.1) (upd fk (xs ((4 * q) + 1)).toNatClampNeg (xs ((4 * q) + 2))) fa sl1 ks1 ct1 sm1 le1 gr1) ++ [(a9, .inl (k9, 1, .inr (.inl (vp_updL ov 0 (fk (xs ((4 * q) + 1)).toNatClampNeg).toInt64))))])) (w1 := (wM b d 0 (nI wn) (nI mn) (nI T.1) ks3 ct3 sm3 le3 gr3 (upd fk (xs ((4 * q) + 1)).toNatClampNeg (xs ((4 * q) + 2))) fa)) hP hD [9, 10, 11, 12, 13, 14, 15, 16] [0, 1, 2, 3, 4, 5, 6, 7, 8, 17] rfl rfl (by decide) (by decide) hk1 hFc hP1 hD1
    have hP := hP.sub (ws' := ((wX a k (nI wn) (nI mn) (nI T.1) (upd fk (xs ((4 * q) + 1)).toNatClampNeg (xs ((4 * q) + 2))) fa sl1 ks1 ct1 sm1 le1 gr1) ++ (wM b d 0 (nI wn) (nI mn) (nI T.1) ks3 ct3 sm3 le3 gr3 (upd fk (xs ((4 * q) + 1)).toNatClampNeg (xs ((4 * q) + 2))) fa) ++ [(a9, .inl (k9, 1, .inr (.inl (vp_updL ov 0 (fk (xs ((4 * q) + 1)).toNatClampNeg).toInt64))))])) [0, 1, 2, 3, 4, 5, 6, 7, 8, 10, 11, 12, 13, 14, 15, 16, 17, 9] rfl
    have hD := hD.sub (ws' := ((wX a k (nI wn) (nI mn) (nI T.1) (upd fk (xs ((4 * q) + 1)).toNatClampNeg (xs ((4 * q) + 2))) fa sl1 ks1 ct1 sm1 le1 gr1) ++ (wM b d 0 (nI wn) (nI mn) (nI T.1) ks3 ct3 sm3 le3 gr3 (upd fk (xs ((4 * q) + 1)).toNatClampNeg (xs ((4 * q) + 2))) fa) ++ [(a9, .inl (k9, 1, .inr (.inl (vp_updL ov 0 (fk (xs ((4 * q) + 1)).toNatClampNeg).toInt64))))])) [0, 1, 2, 3, 4, 5, 6, 7, 8, 10, 11, 12, 13, 14, 15, 16, 17, 9] (by decide) rfl
    have hP : va_P (dC, dI) classes ((wX a k (nI wn) (nI mn) (nI T.1) (upd fk (xs ((4 * q) + 1)).toNatClampNeg (xs ((4 * q) + 2))) fa sl1 ks1 ct1 sm1 le1 gr1) ++ (wM b d 0 (nI wn) (nI mn) (nI T.1) ks3 ct3 sm3 le3 gr3 (upd fk (xs ((4 * q) + 1)).toNatClampNeg (xs ((4 * q) + 2))) fa) ++ [(a9, .inl (k9, 1, .inr (.inl (vp_updL ov 0 (fk (xs ((4 * q) + 1)).toNatClampNeg).toInt64))))]) H1 := hP
    have hD : va_D (fun q : Nat => s.heap.size ≤ q) ((wX a k (nI wn) (nI mn) (nI T.1) (upd fk (xs ((4 * q) + 1)).toNatClampNeg (xs ((4 * q) + 2))) fa sl1 ks1 ct1 sm1 le1 gr1) ++ (wM b d 0 (nI wn) (nI mn) (nI T.1) ks3 ct3 sm3 le3 gr3 (upd fk (xs ((4 * q) + 1)).toNatClampNeg (xs ((4 * q) + 2))) fa) ++ [(a9, .inl (k9, 1, .inr (.inl (vp_updL ov 0 (fk (xs ((4 * q) + 1)).toNatClampNeg).toInt64))))]) := hD
    generalize H1 = H at hP hS ⊢
    have hP : va_P (dC, dI) classes ((wX a k (nI wn) (nI mn) (nI T.1) (upd fk (xs ((4 * q) + 1)).toNatClampNeg (xs ((4 * q) + 2))) fa sl1 ks1 ct1 sm1 le1 gr1) ++ (wM b d 0 (nI wn) (nI mn) (nI T.1) ks3 ct3 sm3 le3 gr3 (upd fk (xs ((4 * q) + 1)).toNatClampNeg (xs ((4 * q) + 2))) fa) ++ [(a9, .inl (k9, 1, .inr (.inl (vp_updL ov 0 (fk (xs ((4 * q) + 1)).toNatClampNeg).toInt64))))]) H := hP
    have hD : va_D (fun q : Nat => s.heap.size ≤ q) ((wX a k (nI wn) (nI mn) (nI T.1) (upd fk (xs ((4 * q) + 1)).toNatClampNeg (xs ((4 * q) + 2))) fa sl1 ks1 ct1 sm1 le1 gr1) ++ (wM b d 0 (nI wn) (nI mn) (nI T.1) ks3 ct3 sm3 le3 gr3 (upd fk (xs ((4 * q) + 1)).toNatClampNeg (xs ((4 * q) + 2))) fa) ++ [(a9, .inl (k9, 1, .inr (.inl (vp_updL ov 0 (fk (xs ((4 * q) + 1)).toNatClampNeg).toInt64))))]) := hD
    show W p l e room_1 s m #[Value.ref sb] below meth c H locs (18 + q + 1 + 0) (67055 + 6 * q + 6 + 0) (lw_Z below #[Value.ref sb] s) (F0 m 179 ls [.int (fk (xs ((4 * q) + 1)).toNatClampNeg)])
    refine lv_istore (lv' := [(6, .int (fk (xs ((4 * q) + 1)).toNatClampNeg)), (5, .int 0), (0, .ref sb), (1, .ref (a 0)), (2, .ref (b 0)), (3, .ref a9), (4, .int (nI (4 * q)))]) hx hb dL_law_179 hl (by decide) rfl (fun ls hl => ?_)
    refine lv_aload_n hx hb dL_law_181 rfl (lv_at hl 4 rfl) ?_
    refine gi_callR (v := .int 0) (W.runV (As := []) (rest := []) ⟨hx, hb, hml, hown, hta⟩ (c_thrown l dC dI b d 0 (nI wn) (nI mn) (nI T.1) ks3 ct3 sm3 le3 gr3 (upd fk (xs ((4 * q) + 1)).toNatClampNeg (xs ((4 * q) + 2))) fa) (cwV 0 hta (gV w312 w313 w314 w2 w315) rfl rfl rfl (by decide +kernel) ⟨Nat.le_of_ble_eq_true rfl, Nat.le_of_ble_eq_true rfl⟩) ⟨gb_R, va_recv hK hP (ci := 1) (q0 := 9) rfl rfl, fun U hU hW => ⟨rfl, by rw [hU]; exact hP.sub (ws' := (wM b d 0 (nI wn) (nI mn) (nI T.1) ks3 ct3 sm3 le3 gr3 (upd fk (xs ((4 * q) + 1)).toNatClampNeg (xs ((4 * q) + 2))) fa)) [9, 10, 11, 12, 13, 14, 15, 16] rfl, va_K.moved hW.alike (hK.sub (tys' := kM d) [8, 9, 10, 11, 12, 13, 14] rfl)⟩⟩ rfl rfl hl.1 rfl (lv_room (Nat.le_of_ble_eq_true rfl)) dL_law_182 ⟨by show 18 + q + 1 + 0 ≤ 1056; omega, by show 67055 + 6 * q + 6 + 0 ≤ 75331; omega⟩) ?_
    refine lv_iload hx hb dL_law_185 (lv_at hl 1 rfl) ?_
    refine lv_icmp_eq (tgt := 192) hx hb dL_law_187 (by decide) (fun h1 => ?_) (fun h1 => ?_)
    rotate_left
    · skip
      exact absurd rfl h1
    · skip
      refine lv_iload hx hb dL_law_192 (lv_at hl 1 rfl) ?_
      refine lv_if_ne (tgt := 209) hx hb dL_law_194 (by decide) (fun h2 => ?_) (fun h2 => ?_)
      · skip
        exact absurd rfl h2
      · skip
        refine lv_aload_n hx hb dL_law_197 rfl (lv_at hl 5 rfl) ?_
        refine lv_iconst (v := 0) hx hb dL_law_198 (by decide) ?_
        refine gi_as (y := nI 0) (nI_0.symm) ?_
        refine gi_lald hx hb hK hP 17 15 rfl rfl (k := 0) (by omega) (by decide) dL_law_199 ?_
        refine gi_asl (y := (fk (xs ((4 * q) + 1)).toNatClampNeg).toInt64) (pk_uLs) ?_
        refine lv_iload hx hb dL_law_200 (lv_at hl 0 rfl) ?_
        refine lv_i2l (v := (fk (xs ((4 * q) + 1)).toNatClampNeg).toInt64) hx hb dL_law_202 rfl ?_
        refine W.lcmp (x := ((fk (xs ((4 * q) + 1)).toNatClampNeg).toInt64)) (y := ((fk (xs ((4 * q) + 1)).toNatClampNeg).toInt64)) hx hb dL_law_203 ?_
        refine lv_if_eq (tgt := 209) hx hb dL_law_204 (by decide) (fun h3 => ?_) (fun h3 => ?_)
        · skip
          refine lv_goto (tgt := 731) hx hb dL_law_209 (by decide) ?_
          have hl := lv_sub hl [2, 3, 4, 5, 6] rfl
          have hl : lv_has ls 8 [(0, .ref sb), (1, .ref (a 0)), (2, .ref (b 0)), (3, .ref a9), (4, .int (nI (4 * q)))] := hl
          exact nxt _ _ _ _ _ _ _ _ _ ls ⟨σ1, sl1, ks1, ct1, sm1, le1, gr1, ks3, ct3, sm3, le3, gr3, hσ1, hr1, hr3, hP, hD, hS⟩ hl
        · skip
          exact absurd ((lg_cmp_eq _ _).mpr rfl) h3
  · skip
    rw [if_neg hLg] at hw
    subst hw
    obtain ⟨σ1, sl1, ks1, ct1, sm1, le1, gr1, ⟨hσ1, hr1⟩, hP1, hK1, hD1⟩ := hB.2 hLg
    rw [ht] at hP1
    obtain ⟨hP, hD⟩ := va_join (wr := (wM b d cd (nI wn) (nI mn) (nI T.1) ks2 ct2 sm2 le2 gr2 fk fa)) (w1 := ((wX a k (nI wn) (nI mn) (nI T.1) fk fa sl1 ks1 ct1 sm1 le1 gr1) ++ [(a9, .inl (k9, 1, .inr (.inl ov)))])) hP hD [0, 1, 2, 3, 4, 5, 6, 7, 8, 17] [9, 10, 11, 12, 13, 14, 15, 16] rfl rfl (by decide) (by decide) hk1 hFc hP1 hD1
    have hP := hP.sub (ws' := ((wX a k (nI wn) (nI mn) (nI T.1) fk fa sl1 ks1 ct1 sm1 le1 gr1) ++ (wM b d cd (nI wn) (nI mn) (nI T.1) ks2 ct2 sm2 le2 gr2 fk fa) ++ [(a9, .inl (k9, 1, .inr (.inl ov)))])) [8, 9, 10, 11, 12, 13, 14, 15, 16, 0, 1, 2, 3, 4, 5, 6, 7, 17] rfl
    have hD := hD.sub (ws' := ((wX a k (nI wn) (nI mn) (nI T.1) fk fa sl1 ks1 ct1 sm1 le1 gr1) ++ (wM b d cd (nI wn) (nI mn) (nI T.1) ks2 ct2 sm2 le2 gr2 fk fa) ++ [(a9, .inl (k9, 1, .inr (.inl ov)))])) [8, 9, 10, 11, 12, 13, 14, 15, 16, 0, 1, 2, 3, 4, 5, 6, 7, 17] (by decide) rfl
    have hP : va_P (dC, dI) classes ((wX a k (nI wn) (nI mn) (nI T.1) fk fa sl1 ks1 ct1 sm1 le1 gr1) ++ (wM b d cd (nI wn) (nI mn) (nI T.1) ks2 ct2 sm2 le2 gr2 fk fa) ++ [(a9, .inl (k9, 1, .inr (.inl ov)))]) H1 := hP
    have hD : va_D (fun q : Nat => s.heap.size ≤ q) ((wX a k (nI wn) (nI mn) (nI T.1) fk fa sl1 ks1 ct1 sm1 le1 gr1) ++ (wM b d cd (nI wn) (nI mn) (nI T.1) ks2 ct2 sm2 le2 gr2 fk fa) ++ [(a9, .inl (k9, 1, .inr (.inl ov)))]) := hD
    generalize H1 = H at hP hS ⊢
    have hP : va_P (dC, dI) classes ((wX a k (nI wn) (nI mn) (nI T.1) fk fa sl1 ks1 ct1 sm1 le1 gr1) ++ (wM b d cd (nI wn) (nI mn) (nI T.1) ks2 ct2 sm2 le2 gr2 fk fa) ++ [(a9, .inl (k9, 1, .inr (.inl ov)))]) H := hP
    have hD : va_D (fun q : Nat => s.heap.size ≤ q) ((wX a k (nI wn) (nI mn) (nI T.1) fk fa sl1 ks1 ct1 sm1 le1 gr1) ++ (wM b d cd (nI wn) (nI mn) (nI T.1) ks2 ct2 sm2 le2 gr2 fk fa) ++ [(a9, .inl (k9, 1, .inr (.inl ov)))]) := hD
    show W p l e room_1 s m #[Value.ref sb] below meth c H locs (18 + q + 1) (67055 + 6 * q + 6) (lw_Z below #[Value.ref sb] s) (F0 m 161 ls [.int 1])
    refine lv_istore (lv' := [(5, .int 1), (0, .ref sb), (1, .ref (a 0)), (2, .ref (b 0)), (3, .ref a9), (4, .int (nI (4 * q)))]) hx hb dL_law_161 hl (by decide) rfl (fun ls hl => ?_)
    refine lv_aload_n hx hb dL_law_163 rfl (lv_at hl 3 rfl) ?_
    refine lv_aload_n hx hb dL_law_164 rfl (lv_at hl 1 rfl) ?_
    refine lv_iload hx hb dL_law_165 (lv_at hl 5 rfl) ?_
    refine lv_iconst (v := 1) hx hb dL_law_167 (by decide) ?_
    refine lv_iadd hx hb dL_law_168 ?_
    refine gi_as (y := nI ((4 * q) + 1)) (nI_1 _) ?_
    refine va_sld hx hb hX hbl hbA hS (vp_in_nI (n := ((4 * q) + 1)) (by omega) (by omega)) dL_law_169 ?_
    refine gi_as (y := xs ((4 * q) + 1)) (by rw [nI_clamp (by omega)]) ?_
    refine lv_aload_n hx hb dL_law_170 rfl (lv_at hl 1 rfl) ?_
    refine lv_iload hx hb dL_law_171 (lv_at hl 5 rfl) ?_
    refine lv_iconst (v := 2) hx hb dL_law_173 (by decide) ?_
    refine lv_iadd hx hb dL_law_174 ?_
    refine gi_as (y := nI ((4 * q) + 2)) (nI_add _ 2) ?_
    refine va_sld hx hb hX hbl hbA hS (vp_in_nI (n := ((4 * q) + 2)) (by omega) (by omega)) dL_law_175 ?_
    refine gi_as (y := xs ((4 * q) + 2)) (by rw [nI_clamp (by omega)]) ?_
    have hPc := hP.sub (ws' := (wM b d cd (nI wn) (nI mn) (nI T.1) ks2 ct2 sm2 le2 gr2 fk fa)) [9, 10, 11, 12, 13, 14, 15, 16] rfl
    have hDc := hD.sub (ws' := (wM b d cd (nI wn) (nI mn) (nI T.1) ks2 ct2 sm2 le2 gr2 fk fa)) [9, 10, 11, 12, 13, 14, 15, 16] (by decide) rfl
    have hKc := hK.sub (tys' := (kM d)) [8, 9, 10, 11, 12, 13, 14] rfl
    have hFc := va_free (wc := (wM b d cd (nI wn) (nI mn) (nI T.1) ks2 ct2 sm2 le2 gr2 fk fa)) hD hS hA [9, 10, 11, 12, 13, 14, 15, 16] rfl
    refine va_calli (va_runV (As := [.int (xs ((4 * q) + 1)), .int (xs ((4 * q) + 2))]) (rest := []) ⟨hx, hb, hml, hown, hta⟩ (c_Mkey l dC dI b d cd wn mn fk fa T ks2 ct2 sm2 le2 gr2 hrep2 (xs ((4 * q) + 1)) (xs ((4 * q) + 2)) H.size) (cwV 2 hta (gV w320 w321 w322 w2 w323) rfl rfl rfl (by decide +kernel) ⟨Nat.le_of_ble_eq_true rfl, Nat.le_of_ble_eq_true rfl⟩) ⟨gb_W, va_recv hKc hPc (ci := 1) (q0 := 0) rfl rfl, fun U hU hW => ⟨rfl, by rw [hU], by rw [hU]; exact hPc, va_K.moved hW.alike hKc, hDc.weaken (fun _ _ _ _ => trivial)⟩⟩ rfl rfl hl.1 rfl (lv_room (Nat.le_of_ble_eq_true rfl)) dL_law_176 ⟨by show 18 + q + 1 + 0 ≤ 1056; omega, by show 67055 + 6 * q + 6 + 0 ≤ 75331; omega⟩) hS (fun q _ h => hFc q h) hFc (fun r_8 u2 t H1 locs ht hvm hw2 hB2 hz1 hk1 hS => ?_)
    rw [if_neg hLg] at hw2
    subst hw2
    obtain ⟨ks3, ct3, sm3, le3, gr3, hr3, hP1, hK1, hD1⟩ := hB2.2 hLg
    rw [ht] at hP1
    obtain ⟨hP, hD⟩ := va_join (wr := ((wX a k (nI wn) (nI mn) (nI T.1) fk fa sl1 ks1 ct1 sm1 le1 gr1) ++ [(a9, .inl (k9, 1, .inr (.inl ov)))])) (w1 := (wM b d 1 (nI wn) (nI mn) (nI T.1) ks3 ct3 sm3 le3 gr3 fk fa)) hP hD [9, 10, 11, 12, 13, 14, 15, 16] [0, 1, 2, 3, 4, 5, 6, 7, 8, 17] rfl rfl (by decide) (by decide) hk1 hFc hP1 hD1
    have hP := hP.sub (ws' := ((wX a k (nI wn) (nI mn) (nI T.1) fk fa sl1 ks1 ct1 sm1 le1 gr1) ++ (wM b d 1 (nI wn) (nI mn) (nI T.1) ks3 ct3 sm3 le3 gr3 fk fa) ++ [(a9, .inl (k9, 1, .inr (.inl ov)))])) [0, 1, 2, 3, 4, 5, 6, 7, 8, 10, 11, 12, 13, 14, 15, 16, 17, 9] rfl
    have hD := hD.sub (ws' := ((wX a k (nI wn) (nI mn) (nI T.1) fk fa sl1 ks1 ct1 sm1 le1 gr1) ++ (wM b d 1 (nI wn) (nI mn) (nI T.1) ks3 ct3 sm3 le3 gr3 fk fa) ++ [(a9, .inl (k9, 1, .inr (.inl ov)))])) [0, 1, 2, 3, 4, 5, 6, 7, 8, 10, 11, 12, 13, 14, 15, 16, 17, 9] (by decide) rfl
    have hP : va_P (dC, dI) classes ((wX a k (nI wn) (nI mn) (nI T.1) fk fa sl1 ks1 ct1 sm1 le1 gr1) ++ (wM b d 1 (nI wn) (nI mn) (nI T.1) ks3 ct3 sm3 le3 gr3 fk fa) ++ [(a9, .inl (k9, 1, .inr (.inl ov)))]) H1 := hP
    have hD : va_D (fun q : Nat => s.heap.size ≤ q) ((wX a k (nI wn) (nI mn) (nI T.1) fk fa sl1 ks1 ct1 sm1 le1 gr1) ++ (wM b d 1 (nI wn) (nI mn) (nI T.1) ks3 ct3 sm3 le3 gr3 fk fa) ++ [(a9, .inl (k9, 1, .inr (.inl ov)))]) := hD
    generalize H1 = H at hP hS ⊢
    have hP : va_P (dC, dI) classes ((wX a k (nI wn) (nI mn) (nI T.1) fk fa sl1 ks1 ct1 sm1 le1 gr1) ++ (wM b d 1 (nI wn) (nI mn) (nI T.1) ks3 ct3 sm3 le3 gr3 fk fa) ++ [(a9, .inl (k9, 1, .inr (.inl ov)))]) H := hP
    have hD : va_D (fun q : Nat => s.heap.size ≤ q) ((wX a k (nI wn) (nI mn) (nI T.1) fk fa sl1 ks1 ct1 sm1 le1 gr1) ++ (wM b d 1 (nI wn) (nI mn) (nI T.1) ks3 ct3 sm3 le3 gr3 fk fa) ++ [(a9, .inl (k9, 1, .inr (.inl ov)))]) := hD
    show W p l e room_1 s m #[Value.ref sb] below meth c H locs (18 + q + 1 + 0) (67055 + 6 * q + 6 + 0) (lw_Z below #[Value.ref sb] s) (F0 m 179 ls [.int 0])
    refine lv_istore (lv' := [(6, .int 0), (5, .int 1), (0, .ref sb), (1, .ref (a 0)), (2, .ref (b 0)), (3, .ref a9), (4, .int (nI (4 * q)))]) hx hb dL_law_179 hl (by decide) rfl (fun ls hl => ?_)
    refine lv_aload_n hx hb dL_law_181 rfl (lv_at hl 4 rfl) ?_
    refine gi_callR (v := .int 1) (W.runV (As := []) (rest := []) ⟨hx, hb, hml, hown, hta⟩ (c_thrown l dC dI b d 1 (nI wn) (nI mn) (nI T.1) ks3 ct3 sm3 le3 gr3 fk fa) (cwV 0 hta (gV w312 w313 w314 w2 w315) rfl rfl rfl (by decide +kernel) ⟨Nat.le_of_ble_eq_true rfl, Nat.le_of_ble_eq_true rfl⟩) ⟨gb_R, va_recv hK hP (ci := 1) (q0 := 9) rfl rfl, fun U hU hW => ⟨rfl, by rw [hU]; exact hP.sub (ws' := (wM b d 1 (nI wn) (nI mn) (nI T.1) ks3 ct3 sm3 le3 gr3 fk fa)) [9, 10, 11, 12, 13, 14, 15, 16] rfl, va_K.moved hW.alike (hK.sub (tys' := kM d) [8, 9, 10, 11, 12, 13, 14] rfl)⟩⟩ rfl rfl hl.1 rfl (lv_room (Nat.le_of_ble_eq_true rfl)) dL_law_182 ⟨by show 18 + q + 1 + 0 ≤ 1056; omega, by show 67055 + 6 * q + 6 + 0 ≤ 75331; omega⟩) ?_
    refine lv_iload hx hb dL_law_185 (lv_at hl 1 rfl) ?_
    refine lv_icmp_eq (tgt := 192) hx hb dL_law_187 (by decide) (fun h1 => ?_) (fun h1 => ?_)
    rotate_left
    · skip
      exact absurd rfl h1
    · skip
      refine lv_iload hx hb dL_law_192 (lv_at hl 1 rfl) ?_
      refine lv_if_ne (tgt := 209) hx hb dL_law_194 (by decide) (fun h2 => ?_) (fun h2 => ?_)
      · skip
        refine lv_goto (tgt := 731) hx hb dL_law_209 (by decide) ?_
        have hl := lv_sub hl [2, 3, 4, 5, 6] rfl
        have hl : lv_has ls 8 [(0, .ref sb), (1, .ref (a 0)), (2, .ref (b 0)), (3, .ref a9), (4, .int (nI (4 * q)))] := hl
        exact nxt _ _ _ _ _ _ _ _ _ ls ⟨σ1, sl1, ks1, ct1, sm1, le1, gr1, ks3, ct3, sm3, le3, gr3, hσ1, hr1, hr3, hP, hD, hS⟩ hl
      · skip
        exact absurd h2 (by decide)
set_option maxHeartbeats 4000000 in
set_option maxRecDepth 100000 in
/-- the law at rows -/
theorem lc_rows {p : Program} {l : Launch} {e : Env} {s : State} {m : MethodId} {below : List Frame} {meth : Method} {c : Code} {dC : Nat → ClassId} {dI : Nat → Nat → Nat} {sb L : Nat} {xs : Nat → Int32} {a : Nat → Nat} {k : Nat → ClassId} {b : Nat → Nat} {d : Nat → ClassId} {a9 : Nat} {k9 : ClassId} (hnt : l.stackTraces = false) (hL : L ≤ 2048) (C0 : lw_At p s m meth c sb L xs) (hT : thrE (fun q : Nat => s.heap.size ≤ q) s s.heap) (hK : va_K (dC, dI) classes (kX k ++ kM d ++ [(k9, .long)]) s) (q : Nat) (hq : 4 * q + 4 ≤ L) (nxt : (∀ (wn mn : Nat) (fk : Nat → Int32) (fa : Nat → Int64) (T : TB) (cd : Int32) (ov : Nat → Int64) (H : Heap) (locs : List Loc) (ls : Array Slot), lwI dC dI a k b d a9 k9 s H locs wn mn fk fa T cd ov → lv_has ls 8 [(0, .ref sb), (1, .ref (a 0)), (2, .ref (b 0)), (3, .ref a9), (4, .int (nI (4 * q)))] → W p l e room_1 s m #[Value.ref sb] below meth c H locs (18 + q + 1) (67055 + 6 * q + 6) (lw_Z below #[Value.ref sb] s) (F0 m 731 ls []))) (wn mn : Nat) (fk : Nat → Int32) (fa : Nat → Int64) (T : TB) (cd : Int32) (ov : Nat → Int64) (H : Heap) (locs : List Loc) (ls : Array Slot) (hI : lwI dC dI a k b d a9 k9 s H locs wn mn fk fa T cd ov) (hl : lv_has ls 8 [(0, .ref sb), (1, .ref (a 0)), (2, .ref (b 0)), (3, .ref a9), (4, .int (nI (4 * q)))]) : W p l e room_1 s m #[Value.ref sb] below meth c H locs (18 + q) (67055 + 6 * q) (lw_Z below #[Value.ref sb] s) (F0 m 503 ls []) := by
  obtain ⟨hx, hb, hr, hml, hown, hts, hX, hbl, hlocks, hgv⟩ := C0
  have hta : ∀ w ∈ wAll, w.before #[Value.ref sb] s = true := fun w h => hts w (wA_tbl h)
  have hown : s.vm.findClass "GroupRowsLaw" = some m.cls := hown
  have hA : ∀ q : Nat, s.heap.size ≤ q → (fun q : Nat => s.heap.size ≤ q) q := fun _ h => h
  have hbA : ¬ (fun q : Nat => s.heap.size ≤ q) sb := Nat.not_le.mpr hbl
  obtain ⟨σ, sl, ks, ct, sm, le, gr, ks2, ct2, sm2, le2, gr2, hσ, hrep, hrep2, hP, hD, hS⟩ := hI
  have hP : va_P (dC, dI) classes ((wX a k (nI wn) (nI mn) (nI T.1) fk fa sl ks ct sm le gr) ++ (wM b d cd (nI wn) (nI mn) (nI T.1) ks2 ct2 sm2 le2 gr2 fk fa) ++ [(a9, .inl (k9, 1, .inr (.inl ov)))]) H := hP
  have hD : va_D (fun q : Nat => s.heap.size ≤ q) ((wX a k (nI wn) (nI mn) (nI T.1) fk fa sl ks ct sm le gr) ++ (wM b d cd (nI wn) (nI mn) (nI T.1) ks2 ct2 sm2 le2 gr2 fk fa) ++ [(a9, .inl (k9, 1, .inr (.inl ov)))]) := hD
  refine lv_aload_n hx hb dL_law_503 rfl (lv_at hl 1 rfl) ?_
  refine gi_callR (v := .int (nI T.1)) (W.runV (As := []) (rest := []) ⟨hx, hb, hml, hown, hta⟩ (c_rows l dC dI a k (nI wn) (nI mn) (nI T.1) fk fa sl ks ct sm le gr) (cwV 0 hta (gV w55 w56 w57 w1 w58) rfl rfl rfl (by decide +kernel) ⟨Nat.le_of_ble_eq_true rfl, Nat.le_of_ble_eq_true rfl⟩) ⟨gb_R, va_recv hK hP (ci := 0) (q0 := 0) rfl rfl, fun U hU hW => ⟨rfl, by rw [hU]; exact hP.sub (ws' := (wX a k (nI wn) (nI mn) (nI T.1) fk fa sl ks ct sm le gr)) [0, 1, 2, 3, 4, 5, 6, 7, 8] rfl, va_K.moved hW.alike (hK.sub (tys' := kX k) [0, 1, 2, 3, 4, 5, 6, 7] rfl)⟩⟩ rfl rfl hl.1 rfl (lv_room (Nat.le_of_ble_eq_true rfl)) dL_law_504 ⟨by show 18 + q + 0 ≤ 1056; omega, by show 67055 + 6 * q + 0 ≤ 75331; omega⟩) ?_
  refine lv_aload_n hx hb dL_law_507 rfl (lv_at hl 2 rfl) ?_
  have hPc := hP.sub (ws' := (wM b d cd (nI wn) (nI mn) (nI T.1) ks2 ct2 sm2 le2 gr2 fk fa)) [9, 10, 11, 12, 13, 14, 15, 16] rfl
  have hDc := hD.sub (ws' := (wM b d cd (nI wn) (nI mn) (nI T.1) ks2 ct2 sm2 le2 gr2 fk fa)) [9, 10, 11, 12, 13, 14, 15, 16] (by decide) rfl
  have hKc := hK.sub (tys' := (kM d)) [8, 9, 10, 11, 12, 13, 14] rfl
  have hFc := va_free (wc := (wM b d cd (nI wn) (nI mn) (nI T.1) ks2 ct2 sm2 le2 gr2 fk fa)) hD hS hA [9, 10, 11, 12, 13, 14, 15, 16] rfl
  refine va_calli (va_runV (As := []) (rest := [.int (nI T.1)]) ⟨hx, hb, hml, hown, hta⟩ (c_Mrows l dC dI b d cd wn mn fk fa T ks2 ct2 sm2 le2 gr2 hrep2 H.size) (cwV 0 hta (gV w374 w375 w376 w2 w377) rfl rfl rfl (by decide +kernel) ⟨Nat.le_of_ble_eq_true rfl, Nat.le_of_ble_eq_true rfl⟩) ⟨gb_W, va_recv hKc hPc (ci := 1) (q0 := 0) rfl rfl, fun U hU hW => ⟨rfl, by rw [hU], by rw [hU]; exact hPc, va_K.moved hW.alike hKc, hDc.weaken (fun _ _ _ _ => trivial)⟩⟩ rfl rfl hl.1 rfl (lv_room (Nat.le_of_ble_eq_true rfl)) dL_law_508 ⟨by show 18 + q + 0 ≤ 1056; omega, by show 67055 + 6 * q + 0 ≤ 75331; omega⟩) hS (fun q _ h => hFc q h) hFc (fun r_8 u2 t H1 locs ht hvm hw2 hB2 hz1 hk1 hS => ?_)
  subst hw2
  obtain ⟨ks3, ct3, sm3, le3, gr3, hr3, hP1, hK1, hD1⟩ := hB2
  rw [ht] at hP1
  obtain ⟨hP, hD⟩ := va_join (wr := ((wX a k (nI wn) (nI mn) (nI T.1) fk fa sl ks ct sm le gr) ++ [(a9, .inl (k9, 1, .inr (.inl ov)))])) (w1 := (wM b d 0 (nI wn) (nI mn) (nI T.1) ks3 ct3 sm3 le3 gr3 fk fa)) hP hD [9, 10, 11, 12, 13, 14, 15, 16] [0, 1, 2, 3, 4, 5, 6, 7, 8, 17] rfl rfl (by decide) (by decide) hk1 hFc hP1 hD1
  have hP := hP.sub (ws' := ((wX a k (nI wn) (nI mn) (nI T.1) fk fa sl ks ct sm le gr) ++ (wM b d 0 (nI wn) (nI mn) (nI T.1) ks3 ct3 sm3 le3 gr3 fk fa) ++ [(a9, .inl (k9, 1, .inr (.inl ov)))])) [0, 1, 2, 3, 4, 5, 6, 7, 8, 10, 11, 12, 13, 14, 15, 16, 17, 9] rfl
  have hD := hD.sub (ws' := ((wX a k (nI wn) (nI mn) (nI T.1) fk fa sl ks ct sm le gr) ++ (wM b d 0 (nI wn) (nI mn) (nI T.1) ks3 ct3 sm3 le3 gr3 fk fa) ++ [(a9, .inl (k9, 1, .inr (.inl ov)))])) [0, 1, 2, 3, 4, 5, 6, 7, 8, 10, 11, 12, 13, 14, 15, 16, 17, 9] (by decide) rfl
  have hP : va_P (dC, dI) classes ((wX a k (nI wn) (nI mn) (nI T.1) fk fa sl ks ct sm le gr) ++ (wM b d 0 (nI wn) (nI mn) (nI T.1) ks3 ct3 sm3 le3 gr3 fk fa) ++ [(a9, .inl (k9, 1, .inr (.inl ov)))]) H1 := hP
  have hD : va_D (fun q : Nat => s.heap.size ≤ q) ((wX a k (nI wn) (nI mn) (nI T.1) fk fa sl ks ct sm le gr) ++ (wM b d 0 (nI wn) (nI mn) (nI T.1) ks3 ct3 sm3 le3 gr3 fk fa) ++ [(a9, .inl (k9, 1, .inr (.inl ov)))]) := hD
  generalize H1 = H at hP hS ⊢
  have hP : va_P (dC, dI) classes ((wX a k (nI wn) (nI mn) (nI T.1) fk fa sl ks ct sm le gr) ++ (wM b d 0 (nI wn) (nI mn) (nI T.1) ks3 ct3 sm3 le3 gr3 fk fa) ++ [(a9, .inl (k9, 1, .inr (.inl ov)))]) H := hP
  have hD : va_D (fun q : Nat => s.heap.size ≤ q) ((wX a k (nI wn) (nI mn) (nI T.1) fk fa sl ks ct sm le gr) ++ (wM b d 0 (nI wn) (nI mn) (nI T.1) ks3 ct3 sm3 le3 gr3 fk fa) ++ [(a9, .inl (k9, 1, .inr (.inl ov)))]) := hD
  show W p l e room_1 s m #[Value.ref sb] below meth c H locs (18 + q + 0) (67055 + 6 * q + 0) (lw_Z below #[Value.ref sb] s) (F0 m 511 ls [.int (nI T.1), .int (nI T.1)])
  refine lv_icmp_eq (tgt := 731) hx hb dL_law_511 (by decide) (fun h1 => ?_) (fun h1 => ?_)
  · skip
    refine W.widen (k := 18 + q + 1) (n := 67055 + 6 * q + 6) (by omega) (by omega) ?_
    have hl := lv_sub hl [0, 1, 2, 3, 4] rfl
    have hl : lv_has ls 8 [(0, .ref sb), (1, .ref (a 0)), (2, .ref (b 0)), (3, .ref a9), (4, .int (nI (4 * q)))] := hl
    exact nxt _ _ _ _ _ _ _ _ _ ls ⟨σ, sl, ks, ct, sm, le, gr, ks3, ct3, sm3, le3, gr3, hσ, hrep, hr3, hP, hD, hS⟩ hl
  · skip
    exact absurd rfl h1
set_option maxHeartbeats 4000000 in
set_option maxRecDepth 100000 in
/-- the law at find -/
theorem lc_find {p : Program} {l : Launch} {e : Env} {s : State} {m : MethodId} {below : List Frame} {meth : Method} {c : Code} {dC : Nat → ClassId} {dI : Nat → Nat → Nat} {sb L : Nat} {xs : Nat → Int32} {a : Nat → Nat} {k : Nat → ClassId} {b : Nat → Nat} {d : Nat → ClassId} {a9 : Nat} {k9 : ClassId} (hnt : l.stackTraces = false) (hL : L ≤ 2048) (C0 : lw_At p s m meth c sb L xs) (hT : thrE (fun q : Nat => s.heap.size ≤ q) s s.heap) (hK : va_K (dC, dI) classes (kX k ++ kM d ++ [(k9, .long)]) s) (q : Nat) (hq : 4 * q + 4 ≤ L) (nxt : (∀ (wn mn : Nat) (fk : Nat → Int32) (fa : Nat → Int64) (T : TB) (cd : Int32) (ov : Nat → Int64) (H : Heap) (locs : List Loc) (ls : Array Slot), lwI dC dI a k b d a9 k9 s H locs wn mn fk fa T cd ov → lv_has ls 8 [(0, .ref sb), (1, .ref (a 0)), (2, .ref (b 0)), (3, .ref a9), (4, .int (nI (4 * q)))] → W p l e room_1 s m #[Value.ref sb] below meth c H locs (18 + q + 1) (67055 + 6 * q + 6) (lw_Z below #[Value.ref sb] s) (F0 m 731 ls []))) (wn mn : Nat) (fk : Nat → Int32) (fa : Nat → Int64) (T : TB) (cd : Int32) (ov : Nat → Int64) (H : Heap) (locs : List Loc) (ls : Array Slot) (hI : lwI dC dI a k b d a9 k9 s H locs wn mn fk fa T cd ov) (hl : lv_has ls 8 [(0, .ref sb), (1, .ref (a 0)), (2, .ref (b 0)), (3, .ref a9), (4, .int (nI (4 * q)))]) : W p l e room_1 s m #[Value.ref sb] below meth c H locs (18 + q) (67055 + 6 * q) (lw_Z below #[Value.ref sb] s) (F0 m 516 ls []) := by
  obtain ⟨hx, hb, hr, hml, hown, hts, hX, hbl, hlocks, hgv⟩ := C0
  have hta : ∀ w ∈ wAll, w.before #[Value.ref sb] s = true := fun w h => hts w (wA_tbl h)
  have hown : s.vm.findClass "GroupRowsLaw" = some m.cls := hown
  have hA : ∀ q : Nat, s.heap.size ≤ q → (fun q : Nat => s.heap.size ≤ q) q := fun _ h => h
  have hbA : ¬ (fun q : Nat => s.heap.size ≤ q) sb := Nat.not_le.mpr hbl
  obtain ⟨σ, sl, ks, ct, sm, le, gr, ks2, ct2, sm2, le2, gr2, hσ, hrep, hrep2, hP, hD, hS⟩ := hI
  have hP : va_P (dC, dI) classes ((wX a k (nI wn) (nI mn) (nI T.1) fk fa sl ks ct sm le gr) ++ (wM b d cd (nI wn) (nI mn) (nI T.1) ks2 ct2 sm2 le2 gr2 fk fa) ++ [(a9, .inl (k9, 1, .inr (.inl ov)))]) H := hP
  have hD : va_D (fun q : Nat => s.heap.size ≤ q) ((wX a k (nI wn) (nI mn) (nI T.1) fk fa sl ks ct sm le gr) ++ (wM b d cd (nI wn) (nI mn) (nI T.1) ks2 ct2 sm2 le2 gr2 fk fa) ++ [(a9, .inl (k9, 1, .inr (.inl ov)))]) := hD
  refine lv_aload_n hx hb dL_law_516 rfl (lv_at hl 1 rfl) ?_
  refine gi_callR (v := .int (if lowP wn T.1 T.2.1 fk < T.1 ∧ lx (T.2.1 (lowP wn T.1 T.2.1 fk)) fk wn 0 = 0 then nI (lowP wn T.1 T.2.1 fk) else (-1))) (W.runV (As := []) (rest := []) ⟨hx, hb, hml, hown, hta⟩ (c_find l dC dI a k wn mn fk fa T σ sl ks ct sm le gr hσ hrep) (cwV 0 hta (gV w59 w60 w61 w1 w62) rfl rfl rfl (by decide +kernel) ⟨Nat.le_of_ble_eq_true rfl, Nat.le_of_ble_eq_true rfl⟩) ⟨gb_R, va_recv hK hP (ci := 0) (q0 := 0) rfl rfl, fun U hU hW => ⟨rfl, by rw [hU]; exact hP.sub (ws' := (wX a k (nI wn) (nI mn) (nI T.1) fk fa sl ks ct sm le gr)) [0, 1, 2, 3, 4, 5, 6, 7, 8] rfl, va_K.moved hW.alike (hK.sub (tys' := kX k) [0, 1, 2, 3, 4, 5, 6, 7] rfl)⟩⟩ rfl rfl hl.1 rfl (lv_room (Nat.le_of_ble_eq_true rfl)) dL_law_517 ⟨by show 18 + q + 0 ≤ 1056; omega, by show 67055 + 6 * q + 0 ≤ 75331; omega⟩) ?_
  refine lv_aload_n hx hb dL_law_520 rfl (lv_at hl 2 rfl) ?_
  have hPc := hP.sub (ws' := (wM b d cd (nI wn) (nI mn) (nI T.1) ks2 ct2 sm2 le2 gr2 fk fa)) [9, 10, 11, 12, 13, 14, 15, 16] rfl
  have hDc := hD.sub (ws' := (wM b d cd (nI wn) (nI mn) (nI T.1) ks2 ct2 sm2 le2 gr2 fk fa)) [9, 10, 11, 12, 13, 14, 15, 16] (by decide) rfl
  have hKc := hK.sub (tys' := (kM d)) [8, 9, 10, 11, 12, 13, 14] rfl
  have hFc := va_free (wc := (wM b d cd (nI wn) (nI mn) (nI T.1) ks2 ct2 sm2 le2 gr2 fk fa)) hD hS hA [9, 10, 11, 12, 13, 14, 15, 16] rfl
  refine va_calli (va_runV (As := []) (rest := [.int (if lowP wn T.1 T.2.1 fk < T.1 ∧ lx (T.2.1 (lowP wn T.1 T.2.1 fk)) fk wn 0 = 0 then nI (lowP wn T.1 T.2.1 fk) else (-1))]) ⟨hx, hb, hml, hown, hta⟩ (c_Mfind l dC dI b d cd wn mn fk fa T ks2 ct2 sm2 le2 gr2 hrep2 H.size) (cwV 0 hta (gV w378 w379 w380 w2 w381) rfl rfl rfl (by decide +kernel) ⟨Nat.le_of_ble_eq_true rfl, Nat.le_of_ble_eq_true rfl⟩) ⟨gb_W, va_recv hKc hPc (ci := 1) (q0 := 0) rfl rfl, fun U hU hW => ⟨rfl, by rw [hU], by rw [hU]; exact hPc, va_K.moved hW.alike hKc, hDc.weaken (fun _ _ _ _ => trivial)⟩⟩ rfl rfl hl.1 rfl (lv_room (Nat.le_of_ble_eq_true rfl)) dL_law_521 ⟨by show 18 + q + 0 ≤ 1056; omega, by show 67055 + 6 * q + 0 ≤ 75331; omega⟩) hS (fun q _ h => hFc q h) hFc (fun r_8 u2 t H1 locs ht hvm hw2 hB2 hz1 hk1 hS => ?_)
  subst hw2
  obtain ⟨ks3, ct3, sm3, le3, gr3, hr3, hP1, hK1, hD1⟩ := hB2
  rw [ht] at hP1
  obtain ⟨hP, hD⟩ := va_join (wr := ((wX a k (nI wn) (nI mn) (nI T.1) fk fa sl ks ct sm le gr) ++ [(a9, .inl (k9, 1, .inr (.inl ov)))])) (w1 := (wM b d 0 (nI wn) (nI mn) (nI T.1) ks3 ct3 sm3 le3 gr3 fk fa)) hP hD [9, 10, 11, 12, 13, 14, 15, 16] [0, 1, 2, 3, 4, 5, 6, 7, 8, 17] rfl rfl (by decide) (by decide) hk1 hFc hP1 hD1
  have hP := hP.sub (ws' := ((wX a k (nI wn) (nI mn) (nI T.1) fk fa sl ks ct sm le gr) ++ (wM b d 0 (nI wn) (nI mn) (nI T.1) ks3 ct3 sm3 le3 gr3 fk fa) ++ [(a9, .inl (k9, 1, .inr (.inl ov)))])) [0, 1, 2, 3, 4, 5, 6, 7, 8, 10, 11, 12, 13, 14, 15, 16, 17, 9] rfl
  have hD := hD.sub (ws' := ((wX a k (nI wn) (nI mn) (nI T.1) fk fa sl ks ct sm le gr) ++ (wM b d 0 (nI wn) (nI mn) (nI T.1) ks3 ct3 sm3 le3 gr3 fk fa) ++ [(a9, .inl (k9, 1, .inr (.inl ov)))])) [0, 1, 2, 3, 4, 5, 6, 7, 8, 10, 11, 12, 13, 14, 15, 16, 17, 9] (by decide) rfl
  have hP : va_P (dC, dI) classes ((wX a k (nI wn) (nI mn) (nI T.1) fk fa sl ks ct sm le gr) ++ (wM b d 0 (nI wn) (nI mn) (nI T.1) ks3 ct3 sm3 le3 gr3 fk fa) ++ [(a9, .inl (k9, 1, .inr (.inl ov)))]) H1 := hP
  have hD : va_D (fun q : Nat => s.heap.size ≤ q) ((wX a k (nI wn) (nI mn) (nI T.1) fk fa sl ks ct sm le gr) ++ (wM b d 0 (nI wn) (nI mn) (nI T.1) ks3 ct3 sm3 le3 gr3 fk fa) ++ [(a9, .inl (k9, 1, .inr (.inl ov)))]) := hD
  generalize H1 = H at hP hS ⊢
  have hP : va_P (dC, dI) classes ((wX a k (nI wn) (nI mn) (nI T.1) fk fa sl ks ct sm le gr) ++ (wM b d 0 (nI wn) (nI mn) (nI T.1) ks3 ct3 sm3 le3 gr3 fk fa) ++ [(a9, .inl (k9, 1, .inr (.inl ov)))]) H := hP
  have hD : va_D (fun q : Nat => s.heap.size ≤ q) ((wX a k (nI wn) (nI mn) (nI T.1) fk fa sl ks ct sm le gr) ++ (wM b d 0 (nI wn) (nI mn) (nI T.1) ks3 ct3 sm3 le3 gr3 fk fa) ++ [(a9, .inl (k9, 1, .inr (.inl ov)))]) := hD
  show W p l e room_1 s m #[Value.ref sb] below meth c H locs (18 + q + 0) (67055 + 6 * q + 0) (lw_Z below #[Value.ref sb] s) (F0 m 524 ls [.int (if lowP wn T.1 T.2.1 fk < T.1 ∧ lx (T.2.1 (lowP wn T.1 T.2.1 fk)) fk wn 0 = 0 then nI (lowP wn T.1 T.2.1 fk) else (-1)), .int (if lowP wn T.1 T.2.1 fk < T.1 ∧ lx (T.2.1 (lowP wn T.1 T.2.1 fk)) fk wn 0 = 0 then nI (lowP wn T.1 T.2.1 fk) else (-1))])
  refine lv_icmp_eq (tgt := 731) hx hb dL_law_524 (by decide) (fun h1 => ?_) (fun h1 => ?_)
  · skip
    refine W.widen (k := 18 + q + 1) (n := 67055 + 6 * q + 6) (by omega) (by omega) ?_
    have hl := lv_sub hl [0, 1, 2, 3, 4] rfl
    have hl : lv_has ls 8 [(0, .ref sb), (1, .ref (a 0)), (2, .ref (b 0)), (3, .ref a9), (4, .int (nI (4 * q)))] := hl
    exact nxt _ _ _ _ _ _ _ _ _ ls ⟨σ, sl, ks, ct, sm, le, gr, ks3, ct3, sm3, le3, gr3, hσ, hrep, hr3, hP, hD, hS⟩ hl
  · skip
    exact absurd rfl h1
