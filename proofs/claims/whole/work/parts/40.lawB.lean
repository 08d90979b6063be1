set_option maxHeartbeats 4000000 in
set_option maxRecDepth 100000 in
/-- the law at begin -/
theorem lc_begin {p : Program} {l : Launch} {e : Env} {s : State} {m : MethodId} {below : List Frame} {meth : Method} {c : Code} {dC : Nat → ClassId} {dI : Nat → Nat → Nat} {sb L : Nat} {xs : Nat → Int32} {a : Nat → Nat} {k : Nat → ClassId} {b : Nat → Nat} {d : Nat → ClassId} {a9 : Nat} {k9 : ClassId} (hnt : l.stackTraces = false) (hL : L ≤ 2048) (C0 : lw_At p s m meth c sb L xs) (hT : thrE (fun q : Nat => s.heap.size ≤ q) s s.heap) (hK : va_K (dC, dI) classes (kX k ++ kM d ++ [(k9, .long)]) s) (q : Nat) (hq : 4 * q + 4 ≤ L) (nxt : (∀ (wn mn : Nat) (fk : Nat → Int32) (fa : Nat → Int64) (T : TB) (cd : Int32) (ov : Nat → Int64) (H : Heap) (locs : List Loc) (ls : Array Slot), lwI dC dI a k b d a9 k9 s H locs wn mn fk fa T cd ov → lv_has ls 8 [(0, .ref sb), (1, .ref (a 0)), (2, .ref (b 0)), (3, .ref a9), (4, .int (nI (4 * q)))] → W p l e room_1 s m #[Value.ref sb] below meth c H locs (18 + q + 1) (67055 + 6 * q + 6) (lw_Z below #[Value.ref sb] s) (F0 m 731 ls []))) (wn mn : Nat) (fk : Nat → Int32) (fa : Nat → Int64) (T : TB) (cd : Int32) (ov : Nat → Int64) (H : Heap) (locs : List Loc) (ls : Array Slot) (hI : lwI dC dI a k b d a9 k9 s H locs wn mn fk fa T cd ov) (hl : lv_has ls 8 [(0, .ref sb), (1, .ref (a 0)), (2, .ref (b 0)), (3, .ref a9), (4, .int (nI (4 * q)))]) : W p l e room_1 s m #[Value.ref sb] below meth c H locs (18 + q) (67055 + 6 * q) (lw_Z below #[Value.ref sb] s) (F0 m 96 ls []) := by
  obtain ⟨hx, hb, hr, hml, hown, hts, hX, hbl, hlocks, hgv⟩ := C0
  have hta : ∀ w ∈ wAll, w.before #[Value.ref sb] s = true := fun w h => hts w (wA_tbl h)
  have hown : s.vm.findClass "GroupRowsLaw" = some m.cls := hown
  have hA : ∀ q : Nat, s.heap.size ≤ q → (fun q : Nat => s.heap.size ≤ q) q := fun _ h => h
  have hbA : ¬ (fun q : Nat => s.heap.size ≤ q) sb := Nat.not_le.mpr hbl
  obtain ⟨σ, sl, ks, ct, sm, le, gr, ks2, ct2, sm2, le2, gr2, hσ, hrep, hrep2, hP, hD, hS⟩ := hI
  have hP : va_P (dC, dI) classes ((wX a k (nI wn) (nI mn) (nI T.1) fk fa sl ks ct sm le gr) ++ (wM b d cd (nI wn) (nI mn) (nI T.1) ks2 ct2 sm2 le2 gr2 fk fa) ++ [(a9, .inl (k9, 1, .inr (.inl ov)))]) H := hP
  have hD : va_D (fun q : Nat => s.heap.size ≤ q) ((wX a k (nI wn) (nI mn) (nI T.1) fk fa sl ks ct sm le gr) ++ (wM b d cd (nI wn) (nI mn) (nI T.1) ks2 ct2 sm2 le2 gr2 fk fa) ++ [(a9, .inl (k9, 1, .inr (.inl ov)))]) := hD
  refine lv_aload_n hx hb dL_law_96 rfl (lv_at hl 1 rfl) ?_
  refine lv_aload_n hx hb dL_law_97 rfl (lv_at hl 0 rfl) ?_
  refine lv_iload hx hb dL_law_98 (lv_at hl 4 rfl) ?_
  refine lv_iconst (v := 1) hx hb dL_law_100 (by decide) ?_
  refine lv_iadd hx hb dL_law_101 ?_
  refine gi_as (y := nI ((4 * q) + 1)) (nI_1 _) ?_
  refine va_sld hx hb hX hbl hbA hS (vp_in_nI (n := ((4 * q) + 1)) (by omega) (by omega)) dL_law_102 ?_
  refine gi_as (y := xs ((4 * q) + 1)) (by rw [nI_clamp (by omega)]) ?_
  refine lv_aload_n hx hb dL_law_103 rfl (lv_at hl 0 rfl) ?_
  refine lv_iload hx hb dL_law_104 (lv_at hl 4 rfl) ?_
  refine lv_iconst (v := 2) hx hb dL_law_106 (by decide) ?_
  refine lv_iadd hx hb dL_law_107 ?_
  refine gi_as (y := nI ((4 * q) + 2)) (nI_add _ 2) ?_
  refine va_sld hx hb hX hbl hbA hS (vp_in_nI (n := ((4 * q) + 2)) (by omega) (by omega)) dL_law_108 ?_
  refine gi_as (y := xs ((4 * q) + 2)) (by rw [nI_clamp (by omega)]) ?_
  have hPc := hP.sub (ws' := (wX a k (nI wn) (nI mn) (nI T.1) fk fa sl ks ct sm le gr)) [0, 1, 2, 3, 4, 5, 6, 7, 8] rfl
  have hDc := hD.sub (ws' := (wX a k (nI wn) (nI mn) (nI T.1) fk fa sl ks ct sm le gr)) [0, 1, 2, 3, 4, 5, 6, 7, 8] (by decide) rfl
  have hKc := hK.sub (tys' := (kX k)) [0, 1, 2, 3, 4, 5, 6, 7] rfl
  have hFc := va_free (wc := (wX a k (nI wn) (nI mn) (nI T.1) fk fa sl ks ct sm le gr)) hD hS hA [0, 1, 2, 3, 4, 5, 6, 7, 8] rfl
  refine va_calli (vx_runSW (As := [.ref (a 0), .int (xs ((4 * q) + 1)), .int (xs ((4 * q) + 2))]) (rest := []) ⟨hx, hb, hml, hown, hta⟩ (c_Lbegin l hnt dC dI a k wn mn fk fa T σ sl ks ct sm le gr hσ hrep (xs ((4 * q) + 1)) (xs ((4 * q) + 2)) H.size) (vx_cwSW 3 hta (gSW w78 w79 w0 w80) rfl rfl rfl (by decide +kernel) ⟨Nat.le_of_ble_eq_true rfl, Nat.le_of_ble_eq_true rfl⟩) ⟨gb_X, fun U hU hW => ⟨rfl, by rw [hU], by rw [hU]; exact hPc, va_K.moved hW.alike hKc, hDc.weaken (fun _ _ _ _ => trivial), by rw [hU]; exact ((thrE.warm hW hT).kept hS.2.1).narrow hFc⟩⟩ rfl rfl hl.1 rfl (lv_room (Nat.le_of_ble_eq_true rfl)) dL_law_109 ⟨by show 18 + q + 1 ≤ 1056; omega, by show 67055 + 6 * q + 6 ≤ 75331; omega⟩) hS (fun q _ h => hFc q h) hFc (fun r_9 u t H1 locs ht hvm hw hB hz1 hk1 hS => ?_)
  by_cases hLg : (0 ≤ (xs ((4 * q) + 1)) ∧ (xs ((4 * q) + 1)) ≤ 8) ∧ 1 ≤ (xs ((4 * q) + 2)) ∧ (xs ((4 * q) + 2)) ≤ 8
  · skip
    rw [if_pos hLg] at hw
    subst hw
    obtain ⟨σ1, sl1, ks1, ct1, sm1, le1, gr1, ⟨hσ1, hr1⟩, hP1, hK1, hD1⟩ := hB.1 hLg
    rw [ht] at hP1
    obtain ⟨hP, hD⟩ := va_join (wr := ((wM b d cd (nI wn) (nI mn) (nI T.1) ks2 ct2 sm2 le2 gr2 fk fa) ++ [(a9, .inl (k9, 1, .inr (.inl ov)))])) (w1 := (wX a k (nI ((xs ((4 * q) + 1)).toNatClampNeg)) (nI ((xs ((4 * q) + 2)).toNatClampNeg)) (nI (0, T.2).1) (upToI (fun _ _ => 0) 0 fk 8) (upTo (fun _ _ => 0) 0 fa 8) sl1 ks1 ct1 sm1 le1 gr1)) hP hD [0, 1, 2, 3, 4, 5, 6, 7, 8] [9, 10, 11, 12, 13, 14, 15, 16, 17] rfl rfl (by decide) (by decide) hk1 hFc hP1 hD1
    have hP := hP.sub (ws' := ((wX a k (nI ((xs ((4 * q) + 1)).toNatClampNeg)) (nI ((xs ((4 * q) + 2)).toNatClampNeg)) (nI (0, T.2).1) (upToI (fun _ _ => 0) 0 fk 8) (upTo (fun _ _ => 0) 0 fa 8) sl1 ks1 ct1 sm1 le1 gr1) ++ (wM b d cd (nI wn) (nI mn) (nI T.1) ks2 ct2 sm2 le2 gr2 fk fa) ++ [(a9, .inl (k9, 1, .inr (.inl ov)))])) [9, 10, 11, 12, 13, 14, 15, 16, 17, 0, 1, 2, 3, 4, 5, 6, 7, 8] rfl
    have hD := hD.sub (ws' := ((wX a k (nI ((xs ((4 * q) + 1)).toNatClampNeg)) (nI ((xs ((4 * q) + 2)).toNatClampNeg)) (nI (0, T.2).1) (upToI (fun _ _ => 0) 0 fk 8) (upTo (fun _ _ => 0) 0 fa 8) sl1 ks1 ct1 sm1 le1 gr1) ++ (wM b d cd (nI wn) (nI mn) (nI T.1) ks2 ct2 sm2 le2 gr2 fk fa) ++ [(a9, .inl (k9, 1, .inr (.inl ov)))])) [9, 10, 11, 12, 13, 14, 15, 16, 17, 0, 1, 2, 3, 4, 5, 6, 7, 8] (by decide) rfl
    have hP : va_P (dC, dI) classes ((wX a k (nI ((xs ((4 * q) + 1)).toNatClampNeg)) (nI ((xs ((4 * q) + 2)).toNatClampNeg)) (nI (0, T.2).1) (upToI (fun _ _ => 0) 0 fk 8) (upTo (fun _ _ => 0) 0 fa 8) sl1 ks1 ct1 sm1 le1 gr1) ++ (wM b d cd (nI wn) (nI mn) (nI T.1) ks2 ct2 sm2 le2 gr2 fk fa) ++ [(a9, .inl (k9, 1, .inr (.inl ov)))]) H1 := hP
    have hD : va_D (fun q : Nat => s.heap.size ≤ q) ((wX a k (nI ((xs ((4 * q) + 1)).toNatClampNeg)) (nI ((xs ((4 * q) + 2)).toNatClampNeg)) (nI (0, T.2).1) (upToI (fun _ _ => 0) 0 fk 8) (upTo (fun _ _ => 0) 0 fa 8) sl1 ks1 ct1 sm1 le1 gr1) ++ (wM b d cd (nI wn) (nI mn) (nI T.1) ks2 ct2 sm2 le2 gr2 fk fa) ++ [(a9, .inl (k9, 1, .inr (.inl ov)))]) := hD
    generalize H1 = H at hP hS ⊢
    have hP : va_P (dC, dI) classes ((wX a k (nI ((xs ((4 * q) + 1)).toNatClampNeg)) (nI ((xs ((4 * q) + 2)).toNatClampNeg)) (nI (0, T.2).1) (upToI (fun _ _ => 0) 0 fk 8) (upTo (fun _ _ => 0) 0 fa 8) sl1 ks1 ct1 sm1 le1 gr1) ++ (wM b d cd (nI wn) (nI mn) (nI T.1) ks2 ct2 sm2 le2 gr2 fk fa) ++ [(a9, .inl (k9, 1, .inr (.inl ov)))]) H := hP
    have hD : va_D (fun q : Nat => s.heap.size ≤ q) ((wX a k (nI ((xs ((4 * q) + 1)).toNatClampNeg)) (nI ((xs ((4 * q) + 2)).toNatClampNeg)) (nI (0, T.2).1) (upToI (fun _ _ => 0) 0 fk 8) (upTo (fun _ _ => 0) 0 fa 8) sl1 ks1 ct1 sm1 le1 gr1) ++ (wM b d cd (nI wn) (nI mn) (nI T.1) ks2 ct2 sm2 le2 gr2 fk fa) ++ [(a9, .inl (k9, 1, .inr (.inl ov)))]) := hD
    show W p l e room_1 s m #[Value.ref sb] below meth c H locs (18 + q + 1) (67055 + 6 * q + 6) (lw_Z below #[Value.ref sb] s) (F0 m 112 ls [.int 0])
    refine lv_istore (lv' := [(5, .int 0), (0, .ref sb), (1, .ref (a 0)), (2, .ref (b 0)), (3, .ref a9), (4, .int (nI (4 * q)))]) hx hb dL_law_112 hl (by decide) rfl (fun ls hl => ?_)
    refine lv_aload_n hx hb dL_law_114 rfl (lv_at hl 3 rfl) ?_
    refine lv_aload_n hx hb dL_law_115 rfl (lv_at hl 1 rfl) ?_
    refine lv_iload hx hb dL_law_116 (lv_at hl 5 rfl) ?_
    refine lv_iconst (v := 1) hx hb dL_law_118 (by decide) ?_
    refine lv_iadd hx hb dL_law_119 ?_
    refine gi_as (y := nI ((4 * q) + 1)) (nI_1 _) ?_
    refine va_sld hx hb hX hbl hbA hS (vp_in_nI (n := ((4 * q) + 1)) (by omega) (by omega)) dL_law_120 ?_
    refine gi_as (y := xs ((4 * q) + 1)) (by rw [nI_clamp (by omega)]) ?_
    refine lv_aload_n hx hb dL_law_121 rfl (lv_at hl 1 rfl) ?_
    refine lv_iload hx hb dL_law_122 (lv_at hl 5 rfl) ?_
    refine lv_iconst (v := 2) hx hb dL_law_124 (by decide) ?_
    refine lv_iadd hx hb dL_law_125 ?_
    refine gi_as (y := nI ((4 * q) + 2)) (nI_add _ 2) ?_
    refine va_sld hx hb hX hbl hbA hS (vp_in_nI (n := ((4 * q) + 2)) (by omega) (by omega)) dL_law_126 ?_
    refine gi_as (y := xs ((4 * q) + 2)) (by rw [nI_clamp (by omega)]) ?_
    have hPc := hP.sub (ws' := (wM b d cd (nI wn) (nI mn) (nI T.1) ks2 ct2 sm2 le2 gr2 fk fa)) [9, 10, 11, 12, 13, 14, 15, 16] rfl
    have hDc := hD.sub (ws' := (wM b d cd (nI wn) (nI mn) (nI T.1) ks2 ct2 sm2 le2 gr2 fk fa)) [9, 10, 11, 12, 13, 14, 15, 16] (by decide) rfl
    have hKc := hK.sub (tys' := (kM d)) [8, 9, 10, 11, 12, 13, 14] rfl
    have hFc := va_free (wc := (wM b d cd (nI wn) (nI mn) (nI T.1) ks2 ct2 sm2 le2 gr2 fk fa)) hD hS hA [9, 10, 11, 12, 13, 14, 15, 16] rfl
    refine va_callv (va_runV (As := [.int (xs ((4 * q) + 1)), .int (xs ((4 * q) + 2))]) (rest := []) ⟨hx, hb, hml, hown, hta⟩ (c_Mbegin l dC dI b d cd wn mn fk fa T ks2 ct2 sm2 le2 gr2 hrep2 (xs ((4 * q) + 1)) (xs ((4 * q) + 2)) H.size) (cwV 2 hta (gV w316 w317 w318 w2 w319) rfl rfl rfl (by decide +kernel) ⟨Nat.le_of_ble_eq_true rfl, Nat.le_of_ble_eq_true rfl⟩) ⟨gb_W, va_recv hKc hPc (ci := 1) (q0 := 0) rfl rfl, fun U hU hW => ⟨rfl, by rw [hU], by rw [hU]; exact hPc, va_K.moved hW.alike hKc, hDc.weaken (fun _ _ _ _ => trivial)⟩⟩ rfl rfl hl.1 rfl (lv_room (Nat.le_of_ble_eq_true rfl)) dL_law_127 ⟨by show 18 + q + 1 + 0 ≤ 1056; omega, by show 67055 + 6 * q + 6 + 0 ≤ 75331; omega⟩) hS (fun q _ h => hFc q h) hFc (fun u2 t H1 locs ht hvm hw2 hB2 hz1 hk1 hS => ?_)
    obtain ⟨ks3, ct3, sm3, le3, gr3, hr3, hP1, hK1, hD1⟩ := hB2.1 hLg
    rw [ht] at hP1
    obtain ⟨hP, hD⟩ := va_join (wr := ((wX a k (nI ((xs ((4 * q) + 1)).toNatClampNeg)) (nI ((xs ((4 * q) + 2)).toNatClampNeg)) (nI (0, T.2).1) (upToI (fun _ _ => 0) 0 fk 8) (upTo (fun _ _ => 0) 0 fa 8) sl1 ks1 ct1 sm1 le1 gr1) ++ [(a9, .inl (k9, 1, .inr (.inl ov)))])) (w1 := (wM b d 0 (nI ((xs ((4 * q) + 1)).toNatClampNeg)) (nI ((xs ((4 * q) + 2)).toNatClampNeg)) (nI (0, T.2).1) ks3 ct3 sm3 le3 gr3 (upToI (fun _ _ => 0) 0 fk 8) (upTo (fun _ _ => 0) 0 fa 8))) hP hD [9, 10, 11, 12, 13, 14, 15, 16] [0, 1, 2, 3, 4, 5, 6, 7, 8, 17] rfl rfl (by decide) (by decide) hk1 hFc hP1 hD1
    have hP := hP.sub (ws' := ((wX a k (nI ((xs ((4 * q) + 1)).toNatClampNeg)) (nI ((xs ((4 * q) + 2)).toNatClampNeg)) (nI (0, T.2).1) (upToI (fun _ _ => 0) 0 fk 8) (upTo (fun _ _ => 0) 0 fa 8) sl1 ks1 ct1 sm1 le1 gr1) ++ (wM b d 0 (nI ((xs ((4 * q) + 1)).toNatClampNeg)) (nI ((xs ((4 * q) + 2)).toNatClampNeg)) (nI (0, T.2).1) ks3 ct3 sm3 le3 gr3 (upToI (fun _ _ => 0) 0 fk 8) (upTo (fun _ _ => 0) 0 fa 8)) ++ [(a9, .inl (k9, 1, .inr (.inl ov)))])) [0, 1, 2, 3, 4, 5, 6, 7, 8, 10, 11, 12, 13, 14, 15, 16, 17, 9] rfl
    have hD := hD.sub (ws' := ((wX a k (nI ((xs ((4 * q) + 1)).toNatClampNeg)) (nI ((xs ((4 * q) + 2)).toNatClampNeg)) (nI (0, T.2).1) (upToI (fun _ _ => 0) 0 fk 8) (upTo (fun _ _ => 0) 0 fa 8) sl1 ks1 ct1 sm1 le1 gr1) ++ (wM b d 0 (nI ((xs ((4 * q) + 1)).toNatClampNeg)) (nI ((xs ((4 * q) + 2)).toNatClampNeg)) (nI (0, T.2).1) ks3 ct3 sm3 le3 gr3 (upToI (fun _ _ => 0) 0 fk 8) (upTo (fun _ _ => 0) 0 fa 8)) ++ [(a9, .inl (k9, 1, .inr (.inl ov)))])) [0, 1, 2, 3, 4, 5, 6, 7, 8, 10, 11, 12, 13, 14, 15, 16, 17, 9] (by decide) rfl
    have hP : va_P (dC, dI) classes ((wX a k (nI ((xs ((4 * q) + 1)).toNatClampNeg)) (nI ((xs ((4 * q) + 2)).toNatClampNeg)) (nI (0, T.2).1) (upToI (fun _ _ => 0) 0 fk 8) (upTo (fun _ _ => 0) 0 fa 8) sl1 ks1 ct1 sm1 le1 gr1) ++ (wM b d 0 (nI ((xs ((4 * q) + 1)).toNatClampNeg)) (nI ((xs ((4 * q) + 2)).toNatClampNeg)) (nI (0, T.2).1) ks3 ct3 sm3 le3 gr3 (upToI (fun _ _ => 0) 0 fk 8) (upTo (fun _ _ => 0) 0 fa 8)) ++ [(a9, .inl (k9, 1, .inr (.inl ov)))]) H1 := hP
    have hD : va_D (fun q : Nat => s.heap.size ≤ q) ((wX a k (nI ((xs ((4 * q) + 1)).toNatClampNeg)) (nI ((xs ((4 * q) + 2)).toNatClampNeg)) (nI (0, T.2).1) (upToI (fun _ _ => 0) 0 fk 8) (upTo (fun _ _ => 0) 0 fa 8) sl1 ks1 ct1 sm1 le1 gr1) ++ (wM b d 0 (nI ((xs ((4 * q) + 1)).toNatClampNeg)) (nI ((xs ((4 * q) + 2)).toNatClampNeg)) (nI (0, T.2).1) ks3 ct3 sm3 le3 gr3 (upToI (fun _ _ => 0) 0 fk 8) (upTo (fun _ _ => 0) 0 fa 8)) ++ [(a9, .inl (k9, 1, .inr (.inl ov)))]) := hD
    generalize H1 = H at hP hS ⊢
    have hP : va_P (dC, dI) classes ((wX a k (nI ((xs ((4 * q) + 1)).toNatClampNeg)) (nI ((xs ((4 * q) + 2)).toNatClampNeg)) (nI (0, T.2).1) (upToI (fun _ _ => 0) 0 fk 8) (upTo (fun _ _ => 0) 0 fa 8) sl1 ks1 ct1 sm1 le1 gr1) ++ (wM b d 0 (nI ((xs ((4 * q) + 1)).toNatClampNeg)) (nI ((xs ((4 * q) + 2)).toNatClampNeg)) (nI (0, T.2).1) ks3 ct3 sm3 le3 gr3 (upToI (fun _ _ => 0) 0 fk 8) (upTo (fun _ _ => 0) 0 fa 8)) ++ [(a9, .inl (k9, 1, .inr (.inl ov)))]) H := hP
    have hD : va_D (fun q : Nat => s.heap.size ≤ q) ((wX a k (nI ((xs ((4 * q) + 1)).toNatClampNeg)) (nI ((xs ((4 * q) + 2)).toNatClampNeg)) (nI (0, T.2).1) (upToI (fun _ _ => 0) 0 fk 8) (upTo (fun _ _ => 0) 0 fa 8) sl1 ks1 ct1 sm1 le1 gr1) ++ (wM b d 0 (nI ((xs ((4 * q) + 1)).toNatClampNeg)) (nI ((xs ((4 * q) + 2)).toNatClampNeg)) (nI (0, T.2).1) ks3 ct3 sm3 le3 gr3 (upToI (fun _ _ => 0) 0 fk 8) (upTo (fun _ _ => 0) 0 fa 8)) ++ [(a9, .inl (k9, 1, .inr (.inl ov)))]) := hD
    show W p l e room_1 s m #[Value.ref sb] below meth c H locs (18 + q + 1 + 0) (67055 + 6 * q + 6 + 0) (lw_Z below #[Value.ref sb] s) (F0 m 130 ls [])
    refine lv_aload_n hx hb dL_law_130 rfl (lv_at hl 3 rfl) ?_
    refine gi_callR (v := .int 0) (W.runV (As := []) (rest := []) ⟨hx, hb, hml, hown, hta⟩ (c_thrown l dC dI b d 0 (nI ((xs ((4 * q) + 1)).toNatClampNeg)) (nI ((xs ((4 * q) + 2)).toNatClampNeg)) (nI (0, T.2).1) ks3 ct3 sm3 le3 gr3 (upToI (fun _ _ => 0) 0 fk 8) (upTo (fun _ _ => 0) 0 fa 8)) (cwV 0 hta (gV w312 w313 w314 w2 w315) rfl rfl rfl (by decide +kernel) ⟨Nat.le_of_ble_eq_true rfl, Nat.le_of_ble_eq_true rfl⟩) ⟨gb_R, va_recv hK hP (ci := 1) (q0 := 9) rfl rfl, fun U hU hW => ⟨rfl, by rw [hU]; exact hP.sub (ws' := (wM b d 0 (nI ((xs ((4 * q) + 1)).toNatClampNeg)) (nI ((xs ((4 * q) + 2)).toNatClampNeg)) (nI (0, T.2).1) ks3 ct3 sm3 le3 gr3 (upToI (fun _ _ => 0) 0 fk 8) (upTo (fun _ _ => 0) 0 fa 8))) [9, 10, 11, 12, 13, 14, 15, 16] rfl, va_K.moved hW.alike (hK.sub (tys' := kM d) [8, 9, 10, 11, 12, 13, 14] rfl)⟩⟩ rfl rfl hl.1 rfl (lv_room (Nat.le_of_ble_eq_true rfl)) dL_law_131 ⟨by show 18 + q + 1 + 0 ≤ 1056; omega, by show 67055 + 6 * q + 6 + 0 ≤ 75331; omega⟩) ?_
    refine lv_iload hx hb dL_law_134 (lv_at hl 0 rfl) ?_
    refine lv_icmp_eq (tgt := 141) hx hb dL_law_136 (by decide) (fun h1 => ?_) (fun h1 => ?_)
    rotate_left
    · skip
      exact absurd rfl h1
    · skip
      refine lv_goto (tgt := 731) hx hb dL_law_141 (by decide) ?_
      have hl := lv_sub hl [1, 2, 3, 4, 5] rfl
      have hl : lv_has ls 8 [(0, .ref sb), (1, .ref (a 0)), (2, .ref (b 0)), (3, .ref a9), (4, .int (nI (4 * q)))] := hl
      exact nxt _ _ _ _ _ _ _ _ _ ls ⟨σ1, sl1, ks1, ct1, sm1, le1, gr1, ks3, ct3, sm3, le3, gr3, hσ1, hr1, hr3, hP, hD, hS⟩ hl
  · skip
    rw [if_neg hLg] at hw
    subst hw
    obtain ⟨σ1, sl1, ks1, ct1, sm1, le1, gr1, ⟨hσ1, hr1⟩, hP1, hK1, hD1⟩ := hB.2 hLg
    rw [ht] at hP1
    obtain ⟨hP, hD⟩ := va_join (wr := ((wM b d cd (nI wn) (nI mn) (nI T.1) ks2 ct2 sm2 le2 gr2 fk fa) ++ [(a9, .inl (k9, 1, .inr (.inl ov)))])) (w1 := (wX a k (nI wn) (nI mn) (nI T.1) fk fa sl1 ks1 ct1 sm1 le1 gr1)) hP hD [0, 1, 2, 3, 4, 5, 6, 7, 8] [9, 10, 11, 12, 13, 14, 15, 16, 17] rfl rfl (by decide) (by decide) hk1 hFc hP1 hD1
    have hP := hP.sub (ws' := ((wX a k (nI wn) (nI mn) (nI T.1) fk fa sl1 ks1 ct1 sm1 le1 gr1) ++ (wM b d cd (nI wn) (nI mn) (nI T.1) ks2 ct2 sm2 le2 gr2 fk fa) ++ [(a9, .inl (k9, 1, .inr (.inl ov)))])) [9, 10, 11, 12, 13, 14, 15, 16, 17, 0, 1, 2, 3, 4, 5, 6, 7, 8] rfl
    have hD := hD.sub (ws' := ((wX a k (nI wn) (nI mn) (nI T.1) fk fa sl1 ks1 ct1 sm1 le1 gr1) ++ (wM b d cd (nI wn) (nI mn) (nI T.1) ks2 ct2 sm2 le2 gr2 fk fa) ++ [(a9, .inl (k9, 1, .inr (.inl ov)))])) [9, 10, 11, 12, 13, 14, 15, 16, 17, 0, 1, 2, 3, 4, 5, 6, 7, 8] (by decide) rfl
    have hP : va_P (dC, dI) classes ((wX a k (nI wn) (nI mn) (nI T.1) fk fa sl1 ks1 ct1 sm1 le1 gr1) ++ (wM b d cd (nI wn) (nI mn) (nI T.1) ks2 ct2 sm2 le2 gr2 fk fa) ++ [(a9, .inl (k9, 1, .inr (.inl ov)))]) H1 := hP
    have hD : va_D (fun q : Nat => s.heap.size ≤ q) ((wX a k (nI wn) (nI mn) (nI T.1) fk fa sl1 ks1 ct1 sm1 le1 gr1) ++ (wM b d cd (nI wn) (nI mn) (nI T.1) ks2 ct2 sm2 le2 gr2 fk fa) ++ [(a9, .inl (k9, 1, .inr (.inl ov)))]) := hD
    generalize H1 = H at hP hS ⊢
    have hP : va_P (dC, dI) classes ((wX a k (nI wn) (nI mn) (nI T.1) fk fa sl1 ks1 ct1 sm1 le1 gr1) ++ (wM b d cd (nI wn) (nI mn) (nI T.1) ks2 ct2 sm2 le2 gr2 fk fa) ++ [(a9, .inl (k9, 1, .inr (.inl ov)))]) H := hP
    have hD : va_D (fun q : Nat => s.heap.size ≤ q) ((wX a k (nI wn) (nI mn) (nI T.1) fk fa sl1 ks1 ct1 sm1 le1 gr1) ++ (wM b d cd (nI wn) (nI mn) (nI T.1) ks2 ct2 sm2 le2 gr2 fk fa) ++ [(a9, .inl (k9, 1, .inr (.inl ov)))]) := hD
    show W p l e room_1 s m #[Value.ref sb] below meth c H locs (18 + q + 1) (67055 + 6 * q + 6) (lw_Z below #[Value.ref sb] s) (F0 m 112 ls [.int 1])
    refine lv_istore (lv' := [(5, .int 1), (0, .ref sb), (1, .ref (a 0)), (2, .ref (b 0)), (3, .ref a9), (4, .int (nI (4 * q)))]) hx hb dL_law_112 hl (by decide) rfl (fun ls hl => ?_)
    refine lv_aload_n hx hb dL_law_114 rfl (lv_at hl 3 rfl) ?_
    refine lv_aload_n hx hb dL_law_115 rfl (lv_at hl 1 rfl) ?_
    refine lv_iload hx hb dL_law_116 (lv_at hl 5 rfl) ?_
    refine lv_iconst (v := 1) hx hb dL_law_118 (by decide) ?_
    refine lv_iadd hx hb dL_law_119 ?_
    refine gi_as (y := nI ((4 * q) + 1)) (nI_1 _) ?_
    refine va_sld hx hb hX hbl hbA hS (vp_in_nI (n := ((4 * q) + 1)) (by omega) (by omega)) dL_law_120 ?_
    refine gi_as (y := xs ((4 * q) + 1)) (by rw [nI_clamp (by omega)]) ?_
    refine lv_aload_n hx hb dL_law_121 rfl (lv_at hl 1 rfl) ?_
    refine lv_iload hx hb dL_law_122 (lv_at hl 5 rfl) ?_
    refine lv_iconst (v := 2) hx hb dL_law_124 (by decide) ?_
    refine lv_iadd hx hb dL_law_125 ?_
    refine gi_as (y := nI ((4 * q) + 2)) (nI_add _ 2) ?_
    refine va_sld hx hb hX hbl hbA hS (vp_in_nI (n := ((4 * q) + 2)) (by omega) (by omega)) dL_law_126 ?_
    refine gi_as (y := xs ((4 * q) + 2)) (by rw [nI_clamp (by omega)]) ?_
    have hPc := hP.sub (ws' := (wM b d cd (nI wn) (nI mn) (nI T.1) ks2 ct2 sm2 le2 gr2 fk fa)) [9, 10, 11, 12, 13, 14, 15, 16] rfl
    have hDc := hD.sub (ws' := (wM b d cd (nI wn) (nI mn) (nI T.1) ks2 ct2 sm2 le2 gr2 fk fa)) [9, 10, 11, 12, 13, 14, 15, 16] (by decide) rfl
    have hKc := hK.sub (tys' := (kM d)) [8, 9, 10, 11, 12, 13, 14] rfl
    have hFc := va_free (wc := (wM b d cd (nI wn) (nI mn) (nI T.1) ks2 ct2 sm2 le2 gr2 fk fa)) hD hS hA [9, 10, 11, 12, 13, 14, 15, 16] rfl
    refine va_callv (va_runV (As := [.int (xs ((4 * q) + 1)), .int (xs ((4 * q) + 2))]) (rest := []) ⟨hx, hb, hml, hown, hta⟩ (c_Mbegin l dC dI b d cd wn mn fk fa T ks2 ct2 sm2 le2 gr2 hrep2 (xs ((4 * q) + 1)) (xs ((4 * q) + 2)) H.size) (cwV 2 hta (gV w316 w317 w318 w2 w319) rfl rfl rfl (by decide +kernel) ⟨Nat.le_of_ble_eq_true rfl, Nat.le_of_ble_eq_true rfl⟩) ⟨gb_W, va_recv hKc hPc (ci := 1) (q0 := 0) rfl rfl, fun U hU hW => ⟨rfl, by rw [hU], by rw [hU]; exact hPc, va_K.moved hW.alike hKc, hDc.weaken (fun _ _ _ _ => trivial)⟩⟩ rfl rfl hl.1 rfl (lv_room (Nat.le_of_ble_eq_true rfl)) dL_law_127 ⟨by show 18 + q + 1 + 0 ≤ 1056; omega, by show 67055 + 6 * q + 6 + 0 ≤ 75331; omega⟩) hS (fun q _ h => hFc q h) hFc (fun u2 t H1 locs ht hvm hw2 hB2 hz1 hk1 hS => ?_)
    obtain ⟨ks3, ct3, sm3, le3, gr3, hr3, hP1, hK1, hD1⟩ := hB2.2 hLg
    rw [ht] at hP1
    obtain ⟨hP, hD⟩ := va_join (wr := ((wX a k (nI wn) (nI mn) (nI T.1) fk fa sl1 ks1 ct1 sm1 le1 gr1) ++ [(a9, .inl (k9, 1, .inr (.inl ov)))])) (w1 := (wM b d 1 (nI wn) (nI mn) (nI T.1) ks3 ct3 sm3 le3 gr3 fk fa)) hP hD [9, 10, 11, 12, 13, 14, 15, 16] [0, 1, 2, 3, 4, 5, 6, 7, 8, 17] rfl rfl (by decide) (by decide) hk1 hFc hP1 hD1
    have hP := hP.sub (ws' := ((wX a k (nI wn) (nI mn) (nI T.1) fk fa sl1 ks1 ct1 sm1 le1 gr1) ++ (wM b d 1 (nI wn) (nI mn) (nI T.1) ks3 ct3 sm3 le3 gr3 fk fa) ++ [(a9, .inl (k9, 1, .inr (.inl ov)))])) [0, 1, 2, 3, 4, 5, 6, 7, 8, 10, 11, 12, 13, 14, 15, 16, 17, 9] rfl
    have hD := hD.sub (ws' := ((wX a k (nI wn) (nI mn) (nI T.1) fk fa sl1 ks1 ct1 sm1 le1 gr1) ++ (wM b d 1 (nI wn) (nI mn) (nI T.1) ks3 ct3 sm3 le3 gr3 fk fa) ++ [(a9, .inl (k9, 1, .inr (.inl ov)))])) [0, 1, 2, 3, 4, 5, 6, 7, 8, 10, 11, 12, 13, 14, 15, 16, 17, 9] (by decide) rfl
    have hP : va_P (dC, dI) classes ((wX a k (nI wn) (nI mn) (nI T.1) fk fa sl1 ks1 ct1 sm1 le1 gr1) ++ (wM b d 1 (nI wn) (nI mn) (nI T.1) ks3 ct3 sm3 le3 gr3 fk fa) ++ [(a9, .inl (k9, 1, .inr (.inl ov)))]) H1 := hP
    have hD : va_D (fun q : Nat => s.heap.size ≤ q) ((wX a k (nI wn) (nI mn) (nI T.1) fk fa sl1 ks1 ct1 sm1 le1 gr1) ++ (wM b d 1 (nI wn) (nI mn) (nI T.1) ks3 ct3 sm3 le3 gr3 fk fa) ++ [(a9, .inl (k9, 1, .inr (.inl ov)))]) := hD
    generalize H1 = H at hP hS ⊢
    have hP : va_P (dC, dI) classes ((wX a k (nI wn) (nI mn) (nI T.1) fk fa sl1 ks1 ct1 sm1 le1 gr1) ++ (wM b d 1 (nI wn) (nI mn) (nI T.1) ks3 ct3 sm3 le3 gr3 fk fa) ++ [(a9, .inl (k9, 1, .inr (.inl ov)))]) H := hP
    have hD : va_D (fun q : Nat => s.heap.size ≤ q) ((wX a k (nI wn) (nI mn) (nI T.1) fk fa sl1 ks1 ct1 sm1 le1 gr1) ++ (wM b d 1 (nI wn) (nI mn) (nI T.1) ks3 ct3 sm3 le3 gr3 fk fa) ++ [(a9, .inl (k9, 1, .inr (.inl ov)))]) := hD
    show W p l e room_1 s m #[Value.ref sb] below meth c H locs (18 + q + 1 + 0) (67055 + 6 * q + 6 + 0) (lw_Z below #[Value.ref sb] s) (F0 m 130 ls [])
    refine lv_aload_n hx hb dL_law_130 rfl (lv_at hl 3 rfl) ?_
    refine gi_callR (v := .int 1) (W.runV (As := []) (rest := []) ⟨hx, hb, hml, hown, hta⟩ (c_thrown l dC dI b d 1 (nI wn) (nI mn) (nI T.1) ks3 ct3 sm3 le3 gr3 fk fa) (cwV 0 hta (gV w312 w313 w314 w2 w315) rfl rfl rfl (by decide +kernel) ⟨Nat.le_of_ble_eq_true rfl, Nat.le_of_ble_eq_true rfl⟩) ⟨gb_R, va_recv hK hP (ci := 1) (q0 := 9) rfl rfl, fun U hU hW => ⟨rfl, by rw [hU]; exact hP.sub (ws' := (wM b d 1 (nI wn) (nI mn) (nI T.1) ks3 ct3 sm3 le3 gr3 fk fa)) [9, 10, 11, 12, 13, 14, 15, 16] rfl, va_K.moved hW.alike (hK.sub (tys' := kM d) [8, 9, 10, 11, 12, 13, 14] rfl)⟩⟩ rfl rfl hl.1 rfl (lv_room (Nat.le_of_ble_eq_true rfl)) dL_law_131 ⟨by show 18 + q + 1 + 0 ≤ 1056; omega, by show 67055 + 6 * q + 6 + 0 ≤ 75331; omega⟩) ?_
    refine lv_iload hx hb dL_law_134 (lv_at hl 0 rfl) ?_
    refine lv_icmp_eq (tgt := 141) hx hb dL_law_136 (by decide) (fun h1 => ?_) (fun h1 => ?_)
    rotate_left
    · skip
      exact absurd rfl h1
    · skip
      refine lv_goto (tgt := 731) hx hb dL_law_141 (by decide) ?_
      have hl := lv_sub hl [1, 2, 3, 4, 5] rfl
      have hl : lv_has ls 8 [(0, .ref sb), (1, .ref (a 0)), (2, .ref (b 0)), (3, .ref a9), (4, .int (nI (4 * q)))] := hl
      exact nxt _ _ _ _ _ _ _ _ _ ls ⟨σ1, sl1, ks1, ct1, sm1, le1, gr1, ks3, ct3, sm3, le3, gr3, hσ1, hr1, hr3, hP, hD, hS⟩ hl
set_option maxHeartbeats 4000000 in
set_option maxRecDepth 100000 in
/-- the law at amount -/
theorem lc_amount {p : Program} {l : Launch} {e : Env} {s : State} {m : MethodId} {below : List Frame} {meth : Method} {c : Code} {dC : Nat → ClassId} {dI : Nat → Nat → Nat} {sb L : Nat} {xs : Nat → Int32} {a : Nat → Nat} {k : Nat → ClassId} {b : Nat → Nat} {d : Nat → ClassId} {a9 : Nat} {k9 : ClassId} (hnt : l.stackTraces = false) (hL : L ≤ 2048) (C0 : lw_At p s m meth c sb L xs) (hT : thrE (fun q : Nat => s.heap.size ≤ q) s s.heap) (hK : va_K (dC, dI) classes (kX k ++ kM d ++ [(k9, .long)]) s) (q : Nat) (hq : 4 * q + 4 ≤ L) (nxt : (∀ (wn mn : Nat) (fk : Nat → Int32) (fa : Nat → Int64) (T : TB) (cd : Int32) (ov : Nat → Int64) (H : Heap) (locs : List Loc) (ls : Array Slot), lwI dC dI a k b d a9 k9 s H locs wn mn fk fa T cd ov → lv_has ls 8 [(0, .ref sb), (1, .ref (a 0)), (2, .ref (b 0)), (3, .ref a9), (4, .int (nI (4 * q)))] → W p l e room_1 s m #[Value.ref sb] below meth c H locs (18 + q + 1) (67055 + 6 * q + 6) (lw_Z below #[Value.ref sb] s) (F0 m 731 ls []))) (wn mn : Nat) (fk : Nat → Int32) (fa : Nat → Int64) (T : TB) (cd : Int32) (ov : Nat → Int64) (H : Heap) (locs : List Loc) (ls : Array Slot) (hI : lwI dC dI a k b d a9 k9 s H locs wn mn fk fa T cd ov) (hl : lv_has ls 8 [(0, .ref sb), (1, .ref (a 0)), (2, .ref (b 0)), (3, .ref a9), (4, .int (nI (4 * q)))]) : W p l e room_1 s m #[Value.ref sb] below meth c H locs (18 + q) (67055 + 6 * q) (lw_Z below #[Value.ref sb] s) (F0 m 212 ls []) := by
  obtain ⟨hx, hb, hr, hml, hown, hts, hX, hbl, hlocks, hgv⟩ := C0
  have hta : ∀ w ∈ wAll, w.before #[Value.ref sb] s = true := fun w h => hts w (wA_tbl h)
  have hown : s.vm.findClass "GroupRowsLaw" = some m.cls := hown
  have hA : ∀ q : Nat, s.heap.size ≤ q → (fun q : Nat => s.heap.size ≤ q) q := fun _ h => h
  have hbA : ¬ (fun q : Nat => s.heap.size ≤ q) sb := Nat.not_le.mpr hbl
  obtain ⟨σ, sl, ks, ct, sm, le, gr, ks2, ct2, sm2, le2, gr2, hσ, hrep, hrep2, hP, hD, hS⟩ := hI
  have hP : va_P (dC, dI) classes ((wX a k (nI wn) (nI mn) (nI T.1) fk fa sl ks ct sm le gr) ++ (wM b d cd (nI wn) (nI mn) (nI T.1) ks2 ct2 sm2 le2 gr2 fk fa) ++ [(a9, .inl (k9, 1, .inr (.inl ov)))]) H := hP
  have hD : va_D (fun q : Nat => s.heap.size ≤ q) ((wX a k (nI wn) (nI mn) (nI T.1) fk fa sl ks ct sm le gr) ++ (wM b d cd (nI wn) (nI mn) (nI T.1) ks2 ct2 sm2 le2 gr2 fk fa) ++ [(a9, .inl (k9, 1, .inr (.inl ov)))]) := hD
  refine lv_aload_n hx hb dL_law_212 rfl (lv_at hl 1 rfl) ?_
  refine lv_aload_n hx hb dL_law_213 rfl (lv_at hl 0 rfl) ?_
  refine lv_iload hx hb dL_law_214 (lv_at hl 4 rfl) ?_
  refine lv_iconst (v := 1) hx hb dL_law_216 (by decide) ?_
  refine lv_iadd hx hb dL_law_217 ?_
  refine gi_as (y := nI ((4 * q) + 1)) (nI_1 _) ?_
  refine va_sld hx hb hX hbl hbA hS (vp_in_nI (n := ((4 * q) + 1)) (by omega) (by omega)) dL_law_218 ?_
  refine gi_as (y := xs ((4 * q) + 1)) (by rw [nI_clamp (by omega)]) ?_
  refine lv_aload_n hx hb dL_law_219 rfl (lv_at hl 0 rfl) ?_
  refine lv_iload hx hb dL_law_220 (lv_at hl 4 rfl) ?_
  refine lv_iconst (v := 2) hx hb dL_law_222 (by decide) ?_
  refine lv_iadd hx hb dL_law_223 ?_
  refine gi_as (y := nI ((4 * q) + 2)) (nI_add _ 2) ?_
  refine va_sld hx hb hX hbl hbA hS (vp_in_nI (n := ((4 * q) + 2)) (by omega) (by omega)) dL_law_224 ?_
  refine gi_as (y := xs ((4 * q) + 2)) (by rw [nI_clamp (by omega)]) ?_
  refine lv_i2l (v := (xs ((4 * q) + 2)).toInt64) hx hb dL_law_225 rfl ?_
  refine lv_bipush (v := 32) hx hb dL_law_226 (by decide) ?_
  refine lv_lshl (v := ((xs ((4 * q) + 2)).toInt64) <<< ((32 : Int32).toInt64 &&& 63)) hx hb dL_law_228 rfl ?_
  refine lv_aload_n hx hb dL_law_229 rfl (lv_at hl 0 rfl) ?_
  refine lv_iload hx hb dL_law_230 (lv_at hl 4 rfl) ?_
  refine lv_iconst (v := 3) hx hb dL_law_232 (by decide) ?_
  refine lv_iadd hx hb dL_law_233 ?_
  refine gi_as (y := nI ((4 * q) + 3)) (nI_add _ 3) ?_
  refine va_sld hx hb hX hbl hbA hS (vp_in_nI (n := ((4 * q) + 3)) (by omega) (by omega)) dL_law_234 ?_
  refine gi_as (y := xs ((4 * q) + 3)) (by rw [nI_clamp (by omega)]) ?_
  refine lv_i2l (v := (xs ((4 * q) + 3)).toInt64) hx hb dL_law_235 rfl ?_
  refine lv_ldc2 (v := 4294967295) hx hb hown (hta _ w398) dL_law_236 ?_
  refine lv_land hx hb dL_law_239 ?_
  refine lv_lor hx hb dL_law_240 ?_
  refine lv_aload_n hx hb dL_law_241 rfl (lv_at hl 3 rfl) ?_
  have hPc := hP.sub (ws' := ((wX a k (nI wn) (nI mn) (nI T.1) fk fa sl ks ct sm le gr) ++ [(a9, .inl (k9, 1, .inr (.inl ov)))])) [0, 1, 2, 3, 4, 5, 6, 7, 8, 17] rfl
  have hDc := hD.sub (ws' := ((wX a k (nI wn) (nI mn) (nI T.1) fk fa sl ks ct sm le gr) ++ [(a9, .inl (k9, 1, .inr (.inl ov)))])) [0, 1, 2, 3, 4, 5, 6, 7, 8, 17] (by decide) rfl
  have hKc := hK.sub (tys' := ((kX k) ++ [(k9, .long)])) [0, 1, 2, 3, 4, 5, 6, 7, 15] rfl
  have hFc := va_free (wc := ((wX a k (nI wn) (nI mn) (nI T.1) fk fa sl ks ct sm le gr) ++ [(a9, .inl (k9, 1, .inr (.inl ov)))])) hD hS hA [0, 1, 2, 3, 4, 5, 6, 7, 8, 17] rfl
  refine va_calli (vx_runSW (As := [.ref (a 0), .int (xs ((4 * q) + 1)), .long ((((xs ((4 * q) + 2)).toInt64) <<< ((32 : Int32).toInt64 &&& 63)) ||| (((xs ((4 * q) + 3)).toInt64) &&& 4294967295)), .ref a9]) (rest := []) ⟨hx, hb, hml, hown, hta⟩ (c_Lamount l hnt dC dI a k wn mn fk fa T σ sl ks ct sm le gr hσ hrep a9 k9 ov (xs ((4 * q) + 1)) ((((xs ((4 * q) + 2)).toInt64) <<< ((32 : Int32).toInt64 &&& 63)) ||| (((xs ((4 * q) + 3)).toInt64) &&& 4294967295)) H.size) (vx_cwSW 4 hta (gSW w171 w172 w0 w173) rfl rfl rfl (by decide +kernel) ⟨Nat.le_of_ble_eq_true rfl, Nat.le_of_ble_eq_true rfl⟩) ⟨gb_X, fun U hU hW => ⟨rfl, by rw [hU], by rw [hU]; exact hPc, va_K.moved hW.alike hKc, hDc.weaken (fun _ _ _ _ => trivial), by rw [hU]; exact ((thrE.warm hW hT).kept hS.2.1).narrow hFc⟩⟩ rfl rfl hl.1 rfl (lv_room (Nat.le_of_ble_eq_true rfl)) dL_law_242 ⟨by show 18 + q + 1 ≤ 1056; omega, by show 67055 + 6 * q + 6 ≤ 75331; omega⟩) hS (fun q _ h => hFc q h) hFc (fun r_9 u t H1 locs ht hvm hw hB hz1 hk1 hS => ?_)
  by_cases hLg : 0 ≤ (xs ((4 * q) + 1)) ∧ (xs ((4 * q) + 1)) < nI mn
  · skip
    rw [if_pos hLg] at hw
    subst hw
    obtain ⟨σ1, sl1, ks1, ct1, sm1, le1, gr1, ⟨hσ1, hr1⟩, hP1, hK1, hD1⟩ := hB.1 hLg
    rw [ht] at hP1
    obtain ⟨hP, hD⟩ := va_join (wr := (wM b d cd (nI wn) (nI mn) (nI T.1) ks2 ct2 sm2 le2 gr2 fk fa)) (w1 := ((wX a k (nI wn) (nI mn) (nI T.1) fk (vp_updL fa (xs ((4 * q) + 1)).toNatClampNeg ((((xs ((4 * q) + 2)).toInt64) <<< ((32 : Int32).toInt64 &&& 63)) ||| (((xs ((4 * q) + 3)).toInt64) &&& 4294967295))) sl1 ks1 ct1 sm1 le1 gr1) ++ [(a9, .inl (k9, 1, .inr (.inl (vp_updL ov 0 (fa (xs ((4 * q) + 1)).toNatClampNeg)))))])) hP hD [0, 1, 2, 3, 4, 5, 6, 7, 8, 17] [9, 10, 11, 12, 13, 14, 15, 16] rfl rfl (by decide) (by decide) hk1 hFc hP1 hD1
    have hP := hP.sub (ws' := ((wX a k (nI wn) (nI mn) (nI T.1) fk (vp_updL fa (xs ((4 * q) + 1)).toNatClampNeg ((((xs ((4 * q) + 2)).toInt64) <<< ((32 : Int32).toInt64 &&& 63)) ||| (((xs ((4 * q) + 3)).toInt64) &&& 4294967295))) sl1 ks1 ct1 sm1 le1 gr1) ++ (wM b d cd (nI wn) (nI mn) (nI T.1) ks2 ct2 sm2 le2 gr2 fk fa) ++ [(a9, .inl (k9, 1, .inr (.inl (vp_updL ov 0 (fa (xs ((4 * q) + 1)).toNatClampNeg)))))])) [8, 9, 10, 11, 12, 13, 14, 15, 16, 0, 1, 2, 3, 4, 5, 6, 7, 17] rfl
    have hD := hD.sub (ws' := ((wX a k (nI wn) (nI mn) (nI T.1) fk (vp_updL fa (xs ((4 * q) + 1)).toNatClampNeg ((((xs ((4 * q) + 2)).toInt64) <<< ((32 : Int32).toInt64 &&& 63)) ||| (((xs ((4 * q) + 3)).toInt64) &&& 4294967295))) sl1 ks1 ct1 sm1 le1 gr1) ++ (wM b d cd (nI wn) (nI mn) (nI T.1) ks2 ct2 sm2 le2 gr2 fk fa) ++ [(a9, .inl (k9, 1, .inr (.inl (vp_updL ov 0 (fa (xs ((4 * q) + 1)).toNatClampNeg)))))])) [8, 9, 10, 11, 12, 13, 14, 15, 16, 0, 1, 2, 3, 4, 5, 6, 7, 17] (by decide) rfl
    have hP : va_P (dC, dI) classes ((wX a k (nI wn) (nI mn) (nI T.1) fk (vp_updL fa (xs ((4 * q) + 1)).toNatClampNeg ((((xs ((4 * q) + 2)).toInt64) <<< ((32 : Int32).toInt64 &&& 63)) ||| (((xs ((4 * q) + 3)).toInt64) &&& 4294967295))) sl1 ks1 ct1 sm1 le1 gr1) ++ (wM b d cd (nI wn) (nI mn) (nI T.1) ks2 ct2 sm2 le2 gr2 fk fa) ++ [(a9, .inl (k9, 1, .inr (.inl (vp_updL ov 0 (fa (xs ((4 * q) + 1)).toNatClampNeg)))))]) H1 := hP
    have hD : va_D (fun q : Nat => s.heap.size ≤ q) ((wX a k (nI wn) (nI mn) (nI T.1) fk (vp_updL fa (xs ((4 * q) + 1)).toNatClampNeg ((((xs ((4 * q) + 2)).toInt64) <<< ((32 : Int32).toInt64 &&& 63)) ||| (((xs ((4 * q) + 3)).toInt64) &&& 4294967295))) sl1 ks1 ct1 sm1 le1 gr1) ++ (wM b d cd (nI wn) (nI mn) (nI T.1) ks2 ct2 sm2 le2 gr2 fk fa) ++ [(a9, .inl (k9, 1, .inr (.inl (vp_updL ov 0 (fa (xs ((4 * q) + 1)).toNatClampNeg)))))]) := hD
    generalize H1 = H at hP hS ⊢
    have hP : va_P (dC, dI) classes ((wX a k (nI wn) (nI mn) (nI T.1) fk (vp_updL fa (xs ((4 * q) + 1)).toNatClampNeg ((((xs ((4 * q) + 2)).toInt64) <<< ((32 : Int32).toInt64 &&& 63)) ||| (((xs ((4 * q) + 3)).toInt64) &&& 4294967295))) sl1 ks1 ct1 sm1 le1 gr1) ++ (wM b d cd (nI wn) (nI mn) (nI T.1) ks2 ct2 sm2 le2 gr2 fk fa) ++ [(a9, .inl (k9, 1, .inr (.inl (vp_updL ov 0 (fa (xs ((4 * q) + 1)).toNatClampNeg)))))]) H := hP
    have hD : va_D (fun q : Nat => s.heap.size ≤ q) ((wX a k (nI wn) (nI mn) (nI T.1) fk (vp_updL fa (xs ((4 * q) + 1)).toNatClampNeg ((((xs ((4 * q) + 2)).toInt64) <<< ((32 : Int32).toInt64 &&& 63)) ||| (((xs ((4 * q) + 3)).toInt64) &&& 4294967295))) sl1 ks1 ct1 sm1 le1 gr1) ++ (wM b d cd (nI wn) (nI mn) (nI T.1) ks2 ct2 sm2 le2 gr2 fk fa) ++ [(a9, .inl (k9, 1, .inr (.inl (vp_updL ov 0 (fa (xs ((4 * q) + 1)).toNatClampNeg)))))]) := hD
    show W p l e room_1 s m #[Value.ref sb] below meth c H locs (18 + q + 1) (67055 + 6 * q + 6) (lw_Z below #[Value.ref sb] s) (F0 m 245 ls [.int 0])
    refine lv_istore (lv' := [(5, .int 0), (0, .ref sb), (1, .ref (a 0)), (2, .ref (b 0)), (3, .ref a9), (4, .int (nI (4 * q)))]) hx hb dL_law_245 hl (by decide) rfl (fun ls hl => ?_)
    refine lv_aload_n hx hb dL_law_247 rfl (lv_at hl 3 rfl) ?_
    refine lv_aload_n hx hb dL_law_248 rfl (lv_at hl 1 rfl) ?_
    refine lv_iload hx hb dL_law_249 (lv_at hl 5 rfl) ?_
    refine lv_iconst (v := 1) hx hb dL_law_251 (by decide) ?_
    refine lv_iadd hx hb dL_law_252 ?_
    refine gi_as (y := nI ((4 * q) + 1)) (nI_1 _) ?_
    refine va_sld hx hb hX hbl hbA hS (vp_in_nI (n := ((4 * q) + 1)) (by omega) (by omega)) dL_law_253 ?_
    refine gi_as (y := xs ((4 * q) + 1)) (by rw [nI_clamp (by omega)]) ?_
    refine lv_aload_n hx hb dL_law_254 rfl (lv_at hl 1 rfl) ?_
    refine lv_iload hx hb dL_law_255 (lv_at hl 5 rfl) ?_
    refine lv_iconst (v := 2) hx hb dL_law_257 (by decide) ?_
    refine lv_iadd hx hb dL_law_258 ?_
    refine gi_as (y := nI ((4 * q) + 2)) (nI_add _ 2) ?_
    refine va_sld hx hb hX hbl hbA hS (vp_in_nI (n := ((4 * q) + 2)) (by omega) (by omega)) dL_law_259 ?_
    refine gi_as (y := xs ((4 * q) + 2)) (by rw [nI_clamp (by omega)]) ?_
    refine lv_i2l (v := (xs ((4 * q) + 2)).toInt64) hx hb dL_law_260 rfl ?_
    refine lv_bipush (v := 32) hx hb dL_law_261 (by decide) ?_
    refine lv_lshl (v := ((xs ((4 * q) + 2)).toInt64) <<< ((32 : Int32).toInt64 &&& 63)) hx hb dL_law_263 rfl ?_
    refine lv_aload_n hx hb dL_law_264 rfl (lv_at hl 1 rfl) ?_
    refine lv_iload hx hb dL_law_265 (lv_at hl 5 rfl) ?_
    refine lv_iconst (v := 3) hx hb dL_law_267 (by decide) ?_
    refine lv_iadd hx hb dL_law_268 ?_
    refine gi_as (y := nI ((4 * q) + 3)) (nI_add _ 3) ?_
    refine va_sld hx hb hX hbl hbA hS (vp_in_nI (n := ((4 * q) + 3)) (by omega) (by omega)) dL_law_269 ?_
    refine gi_as (y := xs ((4 * q) + 3)) (by rw [nI_clamp (by omega)]) ?_
    refine lv_i2l (v := (xs ((4 * q) + 3)).toInt64) hx hb dL_law_270 rfl ?_
    refine lv_ldc2 (v := 4294967295) hx hb hown (hta _ w398) dL_law_271 ?_
    refine lv_land hx hb dL_law_274 ?_
    refine lv_lor hx hb dL_law_275 ?_
    have hPc := hP.sub (ws' := (wM b d cd (nI wn) (nI mn) (nI T.1) ks2 ct2 sm2 le2 gr2 fk fa)) [9, 10, 11, 12, 13, 14, 15, 16] rfl
    have hDc := hD.sub (ws' := (wM b d cd (nI wn) (nI mn) (nI T.1) ks2 ct2 sm2 le2 gr2 fk fa)) [9, 10, 11, 12, 13, 14, 15, 16] (by decide) rfl
    have hKc := hK.sub (tys' := (kM d)) [8, 9, 10, 11, 12, 13, 14] rfl
    have hFc := va_free (wc := (wM b d cd (nI wn) (nI mn) (nI T.1) ks2 ct2 sm2 le2 gr2 fk fa)) hD hS hA [9, 10, 11, 12, 13, 14, 15, 16] rfl
    refine va_calll (va_runV (As := [.int (xs ((4 * q) + 1)), .long ((((xs ((4 * q) + 2)).toInt64) <<< ((32 : Int32).toInt64 &&& 63)) ||| (((xs ((4 * q) + 3)).toInt64) &&& 4294967295))]) (rest := []) ⟨hx, hb, hml, hown, hta⟩ (c_Mamount l dC dI b d cd wn mn fk fa T ks2 ct2 sm2 le2 gr2 hrep2 (xs ((4 * q) + 1)) ((((xs ((4 * q) + 2)).toInt64) <<< ((32 : Int32).toInt64 &&& 63)) ||| (((xs ((4 * q) + 3)).toInt64) &&& 4294967295)) H.size) (cwV 2 hta (gV w324 w325 w326 w2 w327) rfl rfl rfl (by decide +kernel) ⟨Nat.le_of_ble_eq_true rfl, Nat.le_of_ble_eq_true rfl⟩) ⟨gb_W, va_recv hKc hPc (ci := 1) (q0 := 0) rfl rfl, fun U hU hW => ⟨rfl, by rw [hU], by rw [hU]; exact hPc, va_K.moved hW.alike hKc, hDc.weaken (fun _ _ _ _ => trivial)⟩⟩ rfl rfl hl.1 rfl (lv_room (Nat.le_of_ble_eq_true rfl)) dL_law_276 ⟨by show 18 + q + 1 + 0 ≤ 1056; omega, by show 67055 + 6 * q + 6 + 0 ≤ 75331; omega⟩) hS (fun q _ h => hFc q h) hFc (fun r_8 u2 t H1 locs ht hvm hw2 hB2 hz1 hk1 hS => ?_)
    rw [if_pos hLg] at hw2
    subst hw2
    obtain ⟨ks3, ct3, sm3, le3, gr3, hr3, hP1, hK1, hD1⟩ := hB2.1 hLg
    rw [ht] at hP1
    obtain ⟨hP, hD⟩ := va_join (wr := ((wX a k (nI wn) (nI mn) (nI T.1) fk (vp_updL fa (xs ((4 * q) + 1)).toNatClampNeg ((((xs ((4 * q) + 2)).toInt64) <<< ((32 : Int32).toInt64 &&& 63)) ||| (((xs ((4 * q) + 3)).toInt64) &&& 4294967295))) sl1 ks1 ct1 sm1 le1 gr1) ++ [(a9, .inl (k9, 1, .inr (.inl (vp_updL ov 0 (fa (xs ((4 * q) + 1)).toNatClampNeg)))))])) (w1 := (wM b d 0 (nI wn) (nI mn) (nI T.1) ks3 ct3 sm3 le3 gr3 fk (vp_updL fa (xs ((4 * q) + 1)).toNatClampNeg ((((xs ((4 * q) + 2)).toInt64) <<< ((32 : Int32).toInt64 &&& 63)) ||| (((xs ((4 * q) + 3)).toInt64) &&& 4294967295))))) hP hD [9, 10, 11, 12, 13, 14, 15, 16] [0, 1, 2, 3, 4, 5, 6, 7, 8, 17] rfl rfl (by decide) (by decide) hk1 hFc hP1 hD1
    have hP := hP.sub (ws' := ((wX a k (nI wn) (nI mn) (nI T.1) fk (vp_updL fa (xs ((4 * q) + 1)).toNatClampNeg ((((xs ((4 * q) + 2)).toInt64) <<< ((32 : Int32).toInt64 &&& 63)) ||| (((xs ((4 * q) + 3)).toInt64) &&& 4294967295))) sl1 ks1 ct1 sm1 le1 gr1) ++ (wM b d 0 (nI wn) (nI mn) (nI T.1) ks3 ct3 sm3 le3 gr3 fk (vp_updL fa (xs ((4 * q) + 1)).toNatClampNeg ((((xs ((4 * q) + 2)).toInt64) <<< ((32 : Int32).toInt64 &&& 63)) ||| (((xs ((4 * q) + 3)).toInt64) &&& 4294967295)))) ++ [(a9, .inl (k9, 1, .inr (.inl (vp_updL ov 0 (fa (xs ((4 * q) + 1)).toNatClampNeg)))))])) [0, 1, 2, 3, 4, 5, 6, 7, 8, 10, 11, 12, 13, 14, 15, 16, 17, 9] rfl
    have hD := hD.sub (ws' := ((wX a k (nI wn) (nI mn) (nI T.1) fk (vp_updL fa (xs ((4 * q) + 1)).toNatClampNeg ((((xs ((4 * q) + 2)).toInt64) <<< ((32 : Int32).toInt64 &&& 63)) ||| (((xs ((4 * q) + 3)).toInt64) &&& 4294967295))) sl1 ks1 ct1 sm1 le1 gr1) ++ (wM b d 0 (nI wn) (nI mn) (nI T.1) ks3 ct3 sm3 le3 gr3 fk (vp_updL fa (xs ((4 * q) + 1)).toNatClampNeg ((((xs ((4 * q) + 2)).toInt64) <<< ((32 : Int32).toInt64 &&& 63)) ||| (((xs ((4 * q) + 3)).toInt64) &&& 4294967295)))) ++ [(a9, .inl (k9, 1, .inr (.inl (vp_updL ov 0 (fa (xs ((4 * q) + 1)).toNatClampNeg)))))])) [0, 1, 2, 3, 4, 5, 6, 7, 8, 10, 11, 12, 13, 14, 15, 16, 17, 9] (by decide) rfl
    have hP : va_P (dC, dI) classes ((wX a k (nI wn) (nI mn) (nI T.1) fk (vp_updL fa (xs ((4 * q) + 1)).toNatClampNeg ((((xs ((4 * q) + 2)).toInt64) <<< ((32 : Int32).toInt64 &&& 63)) ||| (((xs ((4 * q) + 3)).toInt64) &&& 4294967295))) sl1 ks1 ct1 sm1 le1 gr1) ++ (wM b d 0 (nI wn) (nI mn) (nI T.1) ks3 ct3 sm3 le3 gr3 fk (vp_updL fa (xs ((4 * q) + 1)).toNatClampNeg ((((xs ((4 * q) + 2)).toInt64) <<< ((32 : Int32).toInt64 &&& 63)) ||| (((xs ((4 * q) + 3)).toInt64) &&& 4294967295)))) ++ [(a9, .inl (k9, 1, .inr (.inl (vp_updL ov 0 (fa (xs ((4 * q) + 1)).toNatClampNeg)))))]) H1 := hP
    have hD : va_D (fun q : Nat => s.heap.size ≤ q) ((wX a k (nI wn) (nI mn) (nI T.1) fk (vp_updL fa (xs ((4 * q) + 1)).toNatClampNeg ((((xs ((4 * q) + 2)).toInt64) <<< ((32 : Int32).toInt64 &&& 63)) ||| (((xs ((4 * q) + 3)).toInt64) &&& 4294967295))) sl1 ks1 ct1 sm1 le1 gr1) ++ (wM b d 0 (nI wn) (nI mn) (nI T.1) ks3 ct3 sm3 le3 gr3 fk (vp_updL fa (xs ((4 * q) + 1)).toNatClampNeg ((((xs ((4 * q) + 2)).toInt64) <<< ((32 : Int32).toInt64 &&& 63)) ||| (((xs ((4 * q) + 3)).toInt64) &&& 4294967295)))) ++ [(a9, .inl (k9, 1, .inr (.inl (vp_updL ov 0 (fa (xs ((4 * q) + 1)).toNatClampNeg)))))]) := hD
    generalize H1 = H at hP hS ⊢
    have hP : va_P (dC, dI) classes ((wX a k (nI wn) (nI mn) (nI T.1) fk (vp_updL fa (xs ((4 * q) + 1)).toNatClampNeg ((((xs ((4 * q) + 2)).toInt64) <<< ((32 : Int32).toInt64 &&& 63)) ||| (((xs ((4 * q) + 3)).toInt64) &&& 4294967295))) sl1 ks1 ct1 sm1 le1 gr1) ++ (wM b d 0 (nI wn) (nI mn) (nI T.1) ks3 ct3 sm3 le3 gr3 fk (vp_updL fa (xs ((4 * q) + 1)).toNatClampNeg ((((xs ((4 * q) + 2)).toInt64) <<< ((32 : Int32).toInt64 &&& 63)) ||| (((xs ((4 * q) + 3)).toInt64) &&& 4294967295)))) ++ [(a9, .inl (k9, 1, .inr (.inl (vp_updL ov 0 (fa (xs ((4 * q) + 1)).toNatClampNeg)))))]) H := hP
    have hD : va_D (fun q : Nat => s.heap.size ≤ q) ((wX a k (nI wn) (nI mn) (nI T.1) fk (vp_updL fa (xs ((4 * q) + 1)).toNatClampNeg ((((xs ((4 * q) + 2)).toInt64) <<< ((32 : Int32).toInt64 &&& 63)) ||| (((xs ((4 * q) + 3)).toInt64) &&& 4294967295))) sl1 ks1 ct1 sm1 le1 gr1) ++ (wM b d 0 (nI wn) (nI mn) (nI T.1) ks3 ct3 sm3 le3 gr3 fk (vp_updL fa (xs ((4 * q) + 1)).toNatClampNeg ((((xs ((4 * q) + 2)).toInt64) <<< ((32 : Int32).toInt64 &&& 63)) ||| (((xs ((4 * q) + 3)).toInt64) &&& 4294967295)))) ++ [(a9, .inl (k9, 1, .inr (.inl (vp_updL ov 0 (fa (xs ((4 * q) + 1)).toNatClampNeg)))))]) := hD
    show W p l e room_1 s m #[Value.ref sb] below meth c H locs (18 + q + 1 + 0) (67055 + 6 * q + 6 + 0) (lw_Z below #[Value.ref sb] s) (F0 m 279 ls [.long (fa (xs ((4 * q) + 1)).toNatClampNeg)])
    refine lv_lstore (lv' := [(6, .long (fa (xs ((4 * q) + 1)).toNatClampNeg)), (5, .int 0), (0, .ref sb), (1, .ref (a 0)), (2, .ref (b 0)), (3, .ref a9), (4, .int (nI (4 * q)))]) hx hb dL_law_279 hl (by decide) rfl (fun ls hl => ?_)
    refine lv_aload_n hx hb dL_law_281 rfl (lv_at hl 4 rfl) ?_
    refine gi_callR (v := .int 0) (W.runV (As := []) (rest := []) ⟨hx, hb, hml, hown, hta⟩ (c_thrown l dC dI b d 0 (nI wn) (nI mn) (nI T.1) ks3 ct3 sm3 le3 gr3 fk (vp_updL fa (xs ((4 * q) + 1)).toNatClampNeg ((((xs ((4 * q) + 2)).toInt64) <<< ((32 : Int32).toInt64 &&& 63)) ||| (((xs ((4 * q) + 3)).toInt64) &&& 4294967295)))) (cwV 0 hta (gV w312 w313 w314 w2 w315) rfl rfl rfl (by decide +kernel) ⟨Nat.le_of_ble_eq_true rfl, Nat.le_of_ble_eq_true rfl⟩) ⟨gb_R, va_recv hK hP (ci := 1) (q0 := 9) rfl rfl, fun U hU hW => ⟨rfl, by rw [hU]; exact hP.sub (ws' := (wM b d 0 (nI wn) (nI mn) (nI T.1) ks3 ct3 sm3 le3 gr3 fk (vp_updL fa (xs ((4 * q) + 1)).toNatClampNeg ((((xs ((4 * q) + 2)).toInt64) <<< ((32 : Int32).toInt64 &&& 63)) ||| (((xs ((4 * q) + 3)).toInt64) &&& 4294967295))))) [9, 10, 11, 12, 13, 14, 15, 16] rfl, va_K.moved hW.alike (hK.sub (tys' := kM d) [8, 9, 10, 11, 12, 13, 14] rfl)⟩⟩ rfl rfl hl.1 rfl (lv_room (Nat.le_of_ble_eq_true rfl)) dL_law_282 ⟨by show 18 + q + 1 + 0 ≤ 1056; omega, by show 67055 + 6 * q + 6 + 0 ≤ 75331; omega⟩) ?_
    refine lv_iload hx hb dL_law_285 (lv_at hl 1 rfl) ?_
    refine lv_icmp_eq (tgt := 292) hx hb dL_law_287 (by decide) (fun h1 => ?_) (fun h1 => ?_)
    rotate_left
    · skip
      exact absurd rfl h1
    · skip
      refine lv_iload hx hb dL_law_292 (lv_at hl 1 rfl) ?_
      refine lv_if_ne (tgt := 308) hx hb dL_law_294 (by decide) (fun h2 => ?_) (fun h2 => ?_)
      · skip
        exact absurd rfl h2
      · skip
        refine lv_aload_n hx hb dL_law_297 rfl (lv_at hl 5 rfl) ?_
        refine lv_iconst (v := 0) hx hb dL_law_298 (by decide) ?_
        refine gi_as (y := nI 0) (nI_0.symm) ?_
        refine gi_lald hx hb hK hP 17 15 rfl rfl (k := 0) (by omega) (by decide) dL_law_299 ?_
        refine gi_asl (y := (fa (xs ((4 * q) + 1)).toNatClampNeg)) (pk_uLs) ?_
        refine lv_lload hx hb dL_law_300 (lv_at hl 0 rfl) ?_
        refine W.lcmp (x := (fa (xs ((4 * q) + 1)).toNatClampNeg)) (y := (fa (xs ((4 * q) + 1)).toNatClampNeg)) hx hb dL_law_302 ?_
        refine lv_if_eq (tgt := 308) hx hb dL_law_303 (by decide) (fun h3 => ?_) (fun h3 => ?_)
        · skip
          refine lv_goto (tgt := 731) hx hb dL_law_308 (by decide) ?_
          have hl := lv_sub hl [2, 3, 4, 5, 6] rfl
          have hl : lv_has ls 8 [(0, .ref sb), (1, .ref (a 0)), (2, .ref (b 0)), (3, .ref a9), (4, .int (nI (4 * q)))] := hl
          exact nxt _ _ _ _ _ _ _ _ _ ls ⟨σ1, sl1, ks1, ct1, sm1, le1, gr1, ks3, ct3, sm3, le3, gr3, hσ1, hr1, hr3, hP, hD, hS⟩ hl
        · skip
          exact absurd ((lg_cmp_eq _ _).mpr rfl) h3
  · skip
    rw [if_neg hLg] at hw
    subst hw
    obtain ⟨σ1, sl1, ks1, ct1, sm1, le1, gr1, ⟨hσ1, hr1⟩, hP1, hK1, hD1⟩ := hB.2 hLg
    rw [ht] at hP1
    obtain ⟨hP, hD⟩ := va_join (wr := (wM b d cd (nI wn) (nI mn) (nI T.1) ks2 ct2 sm2 le2 gr2 fk fa)) (w1 := ((wX a k (nI wn) (nI mn) (nI T.1) fk fa sl1 ks1 ct1 sm1 le1 gr1) ++ [(a9, .inl (k9, 1, .inr (.inl ov)))])) hP hD [0, 1, 2, 3, 4, 5, 6, 7, 8, 17] [9, 10, 11, 12, 13, 14, 15, 16] rfl rfl (by decide) (by decide) hk1 hFc hP1 hD1
    have hP := hP.sub (ws' := ((wX a k (nI wn) (nI mn) (nI T.1) fk fa sl1 ks1 ct1 sm1 le1 gr1) ++ (wM b d cd (nI wn) (nI mn) (nI T.1) ks2 ct2 sm2 le2 gr2 fk fa) ++ [(a9, .inl (k9, 1, .inr (.inl ov)))])) [8, 9, 10, 11, 12, 13, 14, 15, 16, 0, 1, 2, 3, 4, 5, 6, 7, 17] rfl
    have hD := hD.sub (ws' := ((wX a k (nI wn) (nI mn) (nI T.1) fk fa sl1 ks1 ct1 sm1 le1 gr1) ++ (wM b d cd (nI wn) (nI mn) (nI T.1) ks2 ct2 sm2 le2 gr2 fk fa) ++ [(a9, .inl (k9, 1, .inr (.inl ov)))])) [8, 9, 10, 11, 12, 13, 14, 15, 16, 0, 1, 2, 3, 4, 5, 6, 7, 17] (by decide) rfl
    have hP : va_P (dC, dI) classes ((wX a k (nI wn) (nI mn) (nI T.1) fk fa sl1 ks1 ct1 sm1 le1 gr1) ++ (wM b d cd (nI wn) (nI mn) (nI T.1) ks2 ct2 sm2 le2 gr2 fk fa) ++ [(a9, .inl (k9, 1, .inr (.inl ov)))]) H1 := hP
    have hD : va_D (fun q : Nat => s.heap.size ≤ q) ((wX a k (nI wn) (nI mn) (nI T.1) fk fa sl1 ks1 ct1 sm1 le1 gr1) ++ (wM b d cd (nI wn) (nI mn) (nI T.1) ks2 ct2 sm2 le2 gr2 fk fa) ++ [(a9, .inl (k9, 1, .inr (.inl ov)))]) := hD
    generalize H1 = H at hP hS ⊢
    have hP : va_P (dC, dI) classes ((wX a k (nI wn) (nI mn) (nI T.1) fk fa sl1 ks1 ct1 sm1 le1 gr1) ++ (wM b d cd (nI wn) (nI mn) (nI T.1) ks2 ct2 sm2 le2 gr2 fk fa) ++ [(a9, .inl (k9, 1, .inr (.inl ov)))]) H := hP
    have hD : va_D (fun q : Nat => s.heap.size ≤ q) ((wX a k (nI wn) (nI mn) (nI T.1) fk fa sl1 ks1 ct1 sm1 le1 gr1) ++ (wM b d cd (nI wn) (nI mn) (nI T.1) ks2 ct2 sm2 le2 gr2 fk fa) ++ [(a9, .inl (k9, 1, .inr (.inl ov)))]) := hD
    show W p l e room_1 s m #[Value.ref sb] below meth c H locs (18 + q + 1) (67055 + 6 * q + 6) (lw_Z below #[Value.ref sb] s) (F0 m 245 ls [.int 1])
    refine lv_istore (lv' := [(5, .int 1), (0, .ref sb), (1, .ref (a 0)), (2, .ref (b 0)), (3, .ref a9), (4, .int (nI (4 * q)))]) hx hb dL_law_245 hl (by decide) rfl (fun ls hl => ?_)
    refine lv_aload_n hx hb dL_law_247 rfl (lv_at hl 3 rfl) ?_
    refine lv_aload_n hx hb dL_law_248 rfl (lv_at hl 1 rfl) ?_
    refine lv_iload hx hb dL_law_249 (lv_at hl 5 rfl) ?_
    refine lv_iconst (v := 1) hx hb dL_law_251 (by decide) ?_
    refine lv_iadd hx hb dL_law_252 ?_
    refine gi_as (y := nI ((4 * q) + 1)) (nI_1 _) ?_
    refine va_sld hx hb hX hbl hbA hS (vp_in_nI (n := ((4 * q) + 1)) (by omega) (by omega)) dL_law_253 ?_
    refine gi_as (y := xs ((4 * q) + 1)) (by rw [nI_clamp (by omega)]) ?_
    refine lv_aload_n hx hb dL_law_254 rfl (lv_at hl 1 rfl) ?_
    refine lv_iload hx hb dL_law_255 (lv_at hl 5 rfl) ?_
    refine lv_iconst (v := 2) hx hb dL_law_257 (by decide) ?_
    refine lv_iadd hx hb dL_law_258 ?_
    refine gi_as (y := nI ((4 * q) + 2)) (nI_add _ 2) ?_
    refine va_sld hx hb hX hbl hbA hS (vp_in_nI (n := ((4 * q) + 2)) (by omega) (by omega)) dL_law_259 ?_
    refine gi_as (y := xs ((4 * q) + 2)) (by rw [nI_clamp (by omega)]) ?_
    refine lv_i2l (v := (xs ((4 * q) + 2)).toInt64) hx hb dL_law_260 rfl ?_
    refine lv_bipush (v := 32) hx hb dL_law_261 (by decide) ?_
    refine lv_lshl (v := ((xs ((4 * q) + 2)).toInt64) <<< ((32 : Int32).toInt64 &&& 63)) hx hb dL_law_263 rfl ?_
    refine lv_aload_n hx hb dL_law_264 rfl (lv_at hl 1 rfl) ?_
    refine lv_iload hx hb dL_law_265 (lv_at hl 5 rfl) ?_
    refine lv_iconst (v := 3) hx hb dL_law_267 (by decide) ?_
    refine lv_iadd hx hb dL_law_268 ?_
    refine gi_as (y := nI ((4 * q) + 3)) (nI_add _ 3) ?_
    refine va_sld hx hb hX hbl hbA hS (vp_in_nI (n := ((4 * q) + 3)) (by omega) (by omega)) dL_law_269 ?_
    refine gi_as (y := xs ((4 * q) + 3)) (by rw [nI_clamp (by omega)]) ?_
    refine lv_i2l (v := (xs ((4 * q) + 3)).toInt64) hx hb dL_law_270 rfl ?_
    refine lv_ldc2 (v := 4294967295) hx hb hown (hta _ w398) dL_law_271 ?_
    refine lv_land hx hb dL_law_274 ?_
    refine lv_lor hx hb dL_law_275 ?_
    have hPc := hP.sub (ws' := (wM b d cd (nI wn) (nI mn) (nI T.1) ks2 ct2 sm2 le2 gr2 fk fa)) [9, 10, 11, 12, 13, 14, 15, 16] rfl
    have hDc := hD.sub (ws' := (wM b d cd (nI wn) (nI mn) (nI T.1) ks2 ct2 sm2 le2 gr2 fk fa)) [9, 10, 11, 12, 13, 14, 15, 16] (by decide) rfl
    have hKc := hK.sub (tys' := (kM d)) [8, 9, 10, 11, 12, 13, 14] rfl
    have hFc := va_free (wc := (wM b d cd (nI wn) (nI mn) (nI T.1) ks2 ct2 sm2 le2 gr2 fk fa)) hD hS hA [9, 10, 11, 12, 13, 14, 15, 16] rfl
    refine va_calll (va_runV (As := [.int (xs ((4 * q) + 1)), .long ((((xs ((4 * q) + 2)).toInt64) <<< ((32 : Int32).toInt64 &&& 63)) ||| (((xs ((4 * q) + 3)).toInt64) &&& 4294967295))]) (rest := []) ⟨hx, hb, hml, hown, hta⟩ (c_Mamount l dC dI b d cd wn mn fk fa T ks2 ct2 sm2 le2 gr2 hrep2 (xs ((4 * q) + 1)) ((((xs ((4 * q) + 2)).toInt64) <<< ((32 : Int32).toInt64 &&& 63)) ||| (((xs ((4 * q) + 3)).toInt64) &&& 4294967295)) H.size) (cwV 2 hta (gV w324 w325 w326 w2 w327) rfl rfl rfl (by decide +kernel) ⟨Nat.le_of_ble_eq_true rfl, Nat.le_of_ble_eq_true rfl⟩) ⟨gb_W, va_recv hKc hPc (ci := 1) (q0 := 0) rfl rfl, fun U hU hW => ⟨rfl, by rw [hU], by rw [hU]; exact hPc, va_K.moved hW.alike hKc, hDc.weaken (fun _ _ _ _ => trivial)⟩⟩ rfl rfl hl.1 rfl (lv_room (Nat.le_of_ble_eq_true rfl)) dL_law_276 ⟨by show 18 + q + 1 + 0 ≤ 1056; omega, by show 67055 + 6 * q + 6 + 0 ≤ 75331; omega⟩) hS (fun q _ h => hFc q h) hFc (fun r_8 u2 t H1 locs ht hvm hw2 hB2 hz1 hk1 hS => ?_)
    rw [if_neg hLg] at hw2
    subst hw2
    obtain ⟨ks3, ct3, sm3, le3, gr3, hr3, hP1, hK1, hD1⟩ := hB2.2 hLg
    rw [ht] at hP1
    obtain ⟨hP, hD⟩ := va_join (wr := ((wX a k (nI wn) (nI mn) (nI T.1) fk fa sl1 ks1 ct1 sm1 le1 gr1) ++ [(a9, .inl (k9, 1, .inr (.inl ov)))])) (w1 := (wM b d 1 (nI wn) (nI mn) (nI T.1) ks3 ct3 sm3 le3 gr3 fk fa)) hP hD [9, 10, 11, 12, 13, 14, 15, 16] [0, 1, 2, 3, 4, 5, 6, 7, 8, 17] rfl rfl (by decide) (by decide) hk1 hFc hP1 hD1
    have hP := hP.sub (ws' := ((wX a k (nI wn) (nI mn) (nI T.1) fk fa sl1 ks1 ct1 sm1 le1 gr1) ++ (wM b d 1 (nI wn) (nI mn) (nI T.1) ks3 ct3 sm3 le3 gr3 fk fa) ++ [(a9, .inl (k9, 1, .inr (.inl ov)))])) [0, 1, 2, 3, 4, 5, 6, 7, 8, 10, 11, 12, 13, 14, 15, 16, 17, 9] rfl
    have hD := hD.sub (ws' := ((wX a k (nI wn) (nI mn) (nI T.1) fk fa sl1 ks1 ct1 sm1 le1 gr1) ++ (wM b d 1 (nI wn) (nI mn) (nI T.1) ks3 ct3 sm3 le3 gr3 fk fa) ++ [(a9, .inl (k9, 1, .inr (.inl ov)))])) [0, 1, 2, 3, 4, 5, 6, 7, 8, 10, 11, 12, 13, 14, 15, 16, 17, 9] (by decide) rfl
    have hP : va_P (dC, dI) classes ((wX a k (nI wn) (nI mn) (nI T.1) fk fa sl1 ks1 ct1 sm1 le1 gr1) ++ (wM b d 1 (nI wn) (nI mn) (nI T.1) ks3 ct3 sm3 le3 gr3 fk fa) ++ [(a9, .inl (k9, 1, .inr (.inl ov)))]) H1 := hP
    have hD : va_D (fun q : Nat => s.heap.size ≤ q) ((wX a k (nI wn) (nI mn) (nI T.1) fk fa sl1 ks1 ct1 sm1 le1 gr1) ++ (wM b d 1 (nI wn) (nI mn) (nI T.1) ks3 ct3 sm3 le3 gr3 fk fa) ++ [(a9, .inl (k9, 1, .inr (.inl ov)))]) := hD
    generalize H1 = H at hP hS ⊢
    have hP : va_P (dC, dI) classes ((wX a k (nI wn) (nI mn) (nI T.1) fk fa sl1 ks1 ct1 sm1 le1 gr1) ++ (wM b d 1 (nI wn) (nI mn) (nI T.1) ks3 ct3 sm3 le3 gr3 fk fa) ++ [(a9, .inl (k9, 1, .inr (.inl ov)))]) H := hP
    have hD : va_D (fun q : Nat => s.heap.size ≤ q) ((wX a k (nI wn) (nI mn) (nI T.1) fk fa sl1 ks1 ct1 sm1 le1 gr1) ++ (wM b d 1 (nI wn) (nI mn) (nI T.1) ks3 ct3 sm3 le3 gr3 fk fa) ++ [(a9, .inl (k9, 1, .inr (.inl ov)))]) := hD
    show W p l e room_1 s m #[Value.ref sb] below meth c H locs (18 + q + 1 + 0) (67055 + 6 * q + 6 + 0) (lw_Z below #[Value.ref sb] s) (F0 m 279 ls [.long 0])
    refine lv_lstore (lv' := [(6, .long 0), (5, .int 1), (0, .ref sb), (1, .ref (a 0)), (2, .ref (b 0)), (3, .ref a9), (4, .int (nI (4 * q)))]) hx hb dL_law_279 hl (by decide) rfl (fun ls hl => ?_)
    refine lv_aload_n hx hb dL_law_281 rfl (lv_at hl 4 rfl) ?_
    refine gi_callR (v := .int 1) (W.runV (As := []) (rest := []) ⟨hx, hb, hml, hown, hta⟩ (c_thrown l dC dI b d 1 (nI wn) (nI mn) (nI T.1) ks3 ct3 sm3 le3 gr3 fk fa) (cwV 0 hta (gV w312 w313 w314 w2 w315) rfl rfl rfl (by decide +kernel) ⟨Nat.le_of_ble_eq_true rfl, Nat.le_of_ble_eq_true rfl⟩) ⟨gb_R, va_recv hK hP (ci := 1) (q0 := 9) rfl rfl, fun U hU hW => ⟨rfl, by rw [hU]; exact hP.sub (ws' := (wM b d 1 (nI wn) (nI mn) (nI T.1) ks3 ct3 sm3 le3 gr3 fk fa)) [9, 10, 11, 12, 13, 14, 15, 16] rfl, va_K.moved hW.alike (hK.sub (tys' := kM d) [8, 9, 10, 11, 12, 13, 14] rfl)⟩⟩ rfl rfl hl.1 rfl (lv_room (Nat.le_of_ble_eq_true rfl)) dL_law_282 ⟨by show 18 + q + 1 + 0 ≤ 1056; omega, by show 67055 + 6 * q + 6 + 0 ≤ 75331; omega⟩) ?_
    refine lv_iload hx hb dL_law_285 (lv_at hl 1 rfl) ?_
    refine lv_icmp_eq (tgt := 292) hx hb dL_law_287 (by decide) (fun h1 => ?_) (fun h1 => ?_)
    rotate_left
    · skip
      exact absurd rfl h1
    · skip
      refine lv_iload hx hb dL_law_292 (lv_at hl 1 rfl) ?_
      refine lv_if_ne (tgt := 308) hx hb dL_law_294 (by decide) (fun h2 => ?_) (fun h2 => ?_)
      · skip
        refine lv_goto (tgt := 731) hx hb dL_law_308 (by decide) ?_
        have hl := lv_sub hl [2, 3, 4, 5, 6] rfl
        have hl : lv_has ls 8 [(0, .ref sb), (1, .ref (a 0)), (2, .ref (b 0)), (3, .ref a9), (4, .int (nI (4 * q)))] := hl
        exact nxt _ _ _ _ _ _ _ _ _ ls ⟨σ1, sl1, ks1, ct1, sm1, le1, gr1, ks3, ct3, sm3, le3, gr3, hσ1, hr1, hr3, hP, hD, hS⟩ hl
      · skip
        exact absurd h2 (by decide)
set_option maxHeartbeats 4000000 in
set_option maxRecDepth 100000 in
/-- the law at add -/
theorem lc_add {p : Program} {l : Launch} {e : Env} {s : State} {m : MethodId} {below : List Frame} {meth : Method} {c : Code} {dC : Nat → ClassId} {dI : Nat → Nat → Nat} {sb L : Nat} {xs : Nat → Int32} {a : Nat → Nat} {k : Nat → ClassId} {b : Nat → Nat} {d : Nat → ClassId} {a9 : Nat} {k9 : ClassId} (hnt : l.stackTraces = false) (hL : L ≤ 2048) (C0 : lw_At p s m meth c sb L xs) (hT : thrE (fun q : Nat => s.heap.size ≤ q) s s.heap) (hK : va_K (dC, dI) classes (kX k ++ kM d ++ [(k9, .long)]) s) (q : Nat) (hq : 4 * q + 4 ≤ L) (nxt : (∀ (wn mn : Nat) (fk : Nat → Int32) (fa : Nat → Int64) (T : TB) (cd : Int32) (ov : Nat → Int64) (H : Heap) (locs : List Loc) (ls : Array Slot), lwI dC dI a k b d a9 k9 s H locs wn mn fk fa T cd ov → lv_has ls 8 [(0, .ref sb), (1, .ref (a 0)), (2, .ref (b 0)), (3, .ref a9), (4, .int (nI (4 * q)))] → W p l e room_1 s m #[Value.ref sb] below meth c H locs (18 + q + 1) (67055 + 6 * q + 6) (lw_Z below #[Value.ref sb] s) (F0 m 731 ls []))) (wn mn : Nat) (fk : Nat → Int32) (fa : Nat → Int64) (T : TB) (cd : Int32) (ov : Nat → Int64) (H : Heap) (locs : List Loc) (ls : Array Slot) (hI : lwI dC dI a k b d a9 k9 s H locs wn mn fk fa T cd ov) (hl : lv_has ls 8 [(0, .ref sb), (1, .ref (a 0)), (2, .ref (b 0)), (3, .ref a9), (4, .int (nI (4 * q)))]) : W p l e room_1 s m #[Value.ref sb] below meth c H locs (18 + q) (67055 + 6 * q) (lw_Z below #[Value.ref sb] s) (F0 m 311 ls []) := by
  obtain ⟨hx, hb, hr, hml, hown, hts, hX, hbl, hlocks, hgv⟩ := C0
  have hta : ∀ w ∈ wAll, w.before #[Value.ref sb] s = true := fun w h => hts w (wA_tbl h)
  have hown : s.vm.findClass "GroupRowsLaw" = some m.cls := hown
  have hA : ∀ q : Nat, s.heap.size ≤ q → (fun q : Nat => s.heap.size ≤ q) q := fun _ h => h
  have hbA : ¬ (fun q : Nat => s.heap.size ≤ q) sb := Nat.not_le.mpr hbl
  obtain ⟨σ, sl, ks, ct, sm, le, gr, ks2, ct2, sm2, le2, gr2, hσ, hrep, hrep2, hP, hD, hS⟩ := hI
  have hP : va_P (dC, dI) classes ((wX a k (nI wn) (nI mn) (nI T.1) fk fa sl ks ct sm le gr) ++ (wM b d cd (nI wn) (nI mn) (nI T.1) ks2 ct2 sm2 le2 gr2 fk fa) ++ [(a9, .inl (k9, 1, .inr (.inl ov)))]) H := hP
  have hD : va_D (fun q : Nat => s.heap.size ≤ q) ((wX a k (nI wn) (nI mn) (nI T.1) fk fa sl ks ct sm le gr) ++ (wM b d cd (nI wn) (nI mn) (nI T.1) ks2 ct2 sm2 le2 gr2 fk fa) ++ [(a9, .inl (k9, 1, .inr (.inl ov)))]) := hD
  refine lv_aload_n hx hb dL_law_311 rfl (lv_at hl 1 rfl) ?_
  refine lv_aload_n hx hb dL_law_312 rfl (lv_at hl 0 rfl) ?_
  refine lv_iload hx hb dL_law_313 (lv_at hl 4 rfl) ?_
  refine lv_iconst (v := 1) hx hb dL_law_315 (by decide) ?_
  refine lv_iadd hx hb dL_law_316 ?_
  refine gi_as (y := nI ((4 * q) + 1)) (nI_1 _) ?_
  refine va_sld hx hb hX hbl hbA hS (vp_in_nI (n := ((4 * q) + 1)) (by omega) (by omega)) dL_law_317 ?_
  refine gi_as (y := xs ((4 * q) + 1)) (by rw [nI_clamp (by omega)]) ?_
  refine lv_aload_n hx hb dL_law_318 rfl (lv_at hl 3 rfl) ?_
  have hPc := hP.sub (ws' := ((wX a k (nI wn) (nI mn) (nI T.1) fk fa sl ks ct sm le gr) ++ [(a9, .inl (k9, 1, .inr (.inl ov)))])) [0, 1, 2, 3, 4, 5, 6, 7, 8, 17] rfl
  have hDc := hD.sub (ws' := ((wX a k (nI wn) (nI mn) (nI T.1) fk fa sl ks ct sm le gr) ++ [(a9, .inl (k9, 1, .inr (.inl ov)))])) [0, 1, 2, 3, 4, 5, 6, 7, 8, 17] (by decide) rfl
  have hKc := hK.sub (tys' := ((kX k) ++ [(k9, .long)])) [0, 1, 2, 3, 4, 5, 6, 7, 15] rfl
  have hFc := va_free (wc := ((wX a k (nI wn) (nI mn) (nI T.1) fk fa sl ks ct sm le gr) ++ [(a9, .inl (k9, 1, .inr (.inl ov)))])) hD hS hA [0, 1, 2, 3, 4, 5, 6, 7, 8, 17] rfl
  refine va_calli (vx_runSW (As := [.ref (a 0), .int (xs ((4 * q) + 1)), .ref a9]) (rest := []) ⟨hx, hb, hml, hown, hta⟩ (c_Ladd l hnt dC dI a k wn mn fk fa T σ sl ks ct sm le gr hσ hrep a9 k9 ov (xs ((4 * q) + 1)) H.size) (vx_cwSW 3 hta (gSW w183 w184 w0 w185) rfl rfl rfl (by decide +kernel) ⟨Nat.le_of_ble_eq_true rfl, Nat.le_of_ble_eq_true rfl⟩) ⟨gb_X, fun U hU hW => ⟨rfl, by rw [hU], by rw [hU]; exact hPc, va_K.moved hW.alike hKc, hDc.weaken (fun _ _ _ _ => trivial), by rw [hU]; exact ((thrE.warm hW hT).kept hS.2.1).narrow hFc⟩⟩ rfl rfl hl.1 rfl (lv_room (Nat.le_of_ble_eq_true rfl)) dL_law_319 ⟨by show 18 + q + 1 ≤ 1056; omega, by show 67055 + 6 * q + 6 ≤ 75331; omega⟩) hS (fun q _ h => hFc q h) hFc (fun r_9 u t H1 locs ht hvm hw hB hz1 hk1 hS => ?_)
  by_cases hLg : 1 ≤ (xs ((4 * q) + 1)) ∧ (xs ((4 * q) + 1)) ≤ 100000
  · skip
    rw [if_pos hLg] at hw
    subst hw
    obtain ⟨σ1, sl1, ks1, ct1, sm1, le1, gr1, ⟨hσ1, hr1⟩, hP1, hK1, hD1⟩ := hB.1 hLg
    rw [ht] at hP1
    obtain ⟨hP, hD⟩ := va_join (wr := (wM b d cd (nI wn) (nI mn) (nI T.1) ks2 ct2 sm2 le2 gr2 fk fa)) (w1 := ((wX a k (nI wn) (nI mn) (nI (takeT wn fk fa (xs ((4 * q) + 1)).toInt64 T).1.1) fk fa sl1 ks1 ct1 sm1 le1 gr1) ++ [(a9, .inl (k9, 1, .inr (.inl (vp_updL ov 0 (if (takeT wn fk fa (xs ((4 * q) + 1)).toInt64 T).2 = true then nI (takeT wn fk fa (xs ((4 * q) + 1)).toInt64 T).1.1 else (-2)).toInt64))))])) hP hD [0, 1, 2, 3, 4, 5, 6, 7, 8, 17] [9, 10, 11, 12, 13, 14, 15, 16] rfl rfl (by decide) (by decide) hk1 hFc hP1 hD1
    have hP := hP.sub (ws' := ((wX a k (nI wn) (nI mn) (nI (takeT wn fk fa (xs ((4 * q) + 1)).toInt64 T).1.1) fk fa sl1 ks1 ct1 sm1 le1 gr1) ++ (wM b d cd (nI wn) (nI mn) (nI T.1) ks2 ct2 sm2 le2 gr2 fk fa) ++ [(a9, .inl (k9, 1, .inr (.inl (vp_updL ov 0 (if (takeT wn fk fa (xs ((4 * q) + 1)).toInt64 T).2 = true then nI (takeT wn fk fa (xs ((4 * q) + 1)).toInt64 T).1.1 else (-2)).toInt64))))])) [8, 9, 10, 11, 12, 13, 14, 15, 16, 0, 1, 2, 3, 4, 5, 6, 7, 17] rfl
    have hD := hD.sub (ws' := ((wX a k (nI wn) (nI mn) (nI (takeT wn fk fa (xs ((4 * q) + 1)).toInt64 T).1.1) fk fa sl1 ks1 ct1 sm1 le1 gr1) ++ (wM b d cd (nI wn) (nI mn) (nI T.1) ks2 ct2 sm2 le2 gr2 fk fa) ++ [(a9, .inl (k9, 1, .inr (.inl (vp_updL ov 0 (if (takeT wn fk fa (xs ((4 * q) + 1)).toInt64 T).2 = true then nI (takeT wn fk fa (xs ((4 * q) + 1)).toInt64 T).1.1 else (-2)).toInt64))))])) [8, 9, 10, 11, 12, 13, 14, 15, 16, 0, 1, 2, 3, 4, 5, 6, 7, 17] (by decide) rfl
    have hP : va_P (dC, dI) classes ((wX a k (nI wn) (nI mn) (nI (takeT wn fk fa (xs ((4 * q) + 1)).toInt64 T).1.1) fk fa sl1 ks1 ct1 sm1 le1 gr1) ++ (wM b d cd (nI wn) (nI mn) (nI T.1) ks2 ct2 sm2 le2 gr2 fk fa) ++ [(a9, .inl (k9, 1, .inr (.inl (vp_updL ov 0 (if (takeT wn fk fa (xs ((4 * q) + 1)).toInt64 T).2 = true then nI (takeT wn fk fa (xs ((4 * q) + 1)).toInt64 T).1.1 else (-2)).toInt64))))]) H1 := hP
    have hD : va_D (fun q : Nat => s.heap.size ≤ q) ((wX a k (nI wn) (nI mn) (nI (takeT wn fk fa (xs ((4 * q) + 1)).toInt64 T).1.1) fk fa sl1 ks1 ct1 sm1 le1 gr1) ++ (wM b d cd (nI wn) (nI mn) (nI T.1) ks2 ct2 sm2 le2 gr2 fk fa) ++ [(a9, .inl (k9, 1, .inr (.inl (vp_updL ov 0 (if (takeT wn fk fa (xs ((4 * q) + 1)).toInt64 T).2 = true then nI (takeT wn fk fa (xs ((4 * q) + 1)).toInt64 T).1.1 else (-2)).toInt64))))]) := hD
    generalize H1 = H at hP hS ⊢
    have hP : va_P (dC, dI) classes ((wX a k (nI wn) (nI mn) (nI (takeT wn fk fa (xs ((4 * q) + 1)).toInt64 T).1.1) fk fa sl1 ks1 ct1 sm1 le1 gr1) ++ (wM b d cd (nI wn) (nI mn) (nI T.1) ks2 ct2 sm2 le2 gr2 fk fa) ++ [(a9, .inl (k9, 1, .inr (.inl (vp_updL ov 0 (if (takeT wn fk fa (xs ((4 * q) + 1)).toInt64 T).2 = true then nI (takeT wn fk fa (xs ((4 * q) + 1)).toInt64 T).1.1 else (-2)).toInt64))))]) H := hP
    have hD : va_D (fun q : Nat => s.heap.size ≤ q) ((wX a k (nI wn) (nI mn) (nI (takeT wn fk fa (xs ((4 * q) + 1)).toInt64 T).1.1) fk fa sl1 ks1 ct1 sm1 le1 gr1) ++ (wM b d cd (nI wn) (nI mn) (nI T.1) ks2 ct2 sm2 le2 gr2 fk fa) ++ [(a9, .inl (k9, 1, .inr (.inl (vp_updL ov 0 (if (takeT wn fk fa (xs ((4 * q) + 1)).toInt64 T).2 = true then nI (takeT wn fk fa (xs ((4 * q) + 1)).toInt64 T).1.1 else (-2)).toInt64))))]) := hD
    show W p l e room_1 s m #[Value.ref sb] below meth c H locs (18 + q + 1) (67055 + 6 * q + 6) (lw_Z below #[Value.ref sb] s) (F0 m 322 ls [.int 0])
    refine lv_istore (lv' := [(5, .int 0), (0, .ref sb), (1, .ref (a 0)), (2, .ref (b 0)), (3, .ref a9), (4, .int (nI (4 * q)))]) hx hb dL_law_322 hl (by decide) rfl (fun ls hl => ?_)
    refine lv_aload_n hx hb dL_law_324 rfl (lv_at hl 3 rfl) ?_
    refine lv_aload_n hx hb dL_law_325 rfl (lv_at hl 1 rfl) ?_
    refine lv_iload hx hb dL_law_326 (lv_at hl 5 rfl) ?_
    refine lv_iconst (v := 1) hx hb dL_law_328 (by decide) ?_
    refine lv_iadd hx hb dL_law_329 ?_
    refine gi_as (y := nI ((4 * q) + 1)) (nI_1 _) ?_
    refine va_sld hx hb hX hbl hbA hS (vp_in_nI (n := ((4 * q) + 1)) (by omega) (by omega)) dL_law_330 ?_
    refine gi_as (y := xs ((4 * q) + 1)) (by rw [nI_clamp (by omega)]) ?_
    have hPc := hP.sub (ws' := (wM b d cd (nI wn) (nI mn) (nI T.1) ks2 ct2 sm2 le2 gr2 fk fa)) [9, 10, 11, 12, 13, 14, 15, 16] rfl
    have hDc := hD.sub (ws' := (wM b d cd (nI wn) (nI mn) (nI T.1) ks2 ct2 sm2 le2 gr2 fk fa)) [9, 10, 11, 12, 13, 14, 15, 16] (by decide) rfl
    have hKc := hK.sub (tys' := (kM d)) [8, 9, 10, 11, 12, 13, 14] rfl
    have hFc := va_free (wc := (wM b d cd (nI wn) (nI mn) (nI T.1) ks2 ct2 sm2 le2 gr2 fk fa)) hD hS hA [9, 10, 11, 12, 13, 14, 15, 16] rfl
    refine va_calli (va_runV (As := [.int (xs ((4 * q) + 1))]) (rest := []) ⟨hx, hb, hml, hown, hta⟩ (c_Madd l dC dI b d cd wn mn fk fa T ks2 ct2 sm2 le2 gr2 hrep2 (xs ((4 * q) + 1)) H.size) (cwV 1 hta (gV w328 w329 w330 w2 w331) rfl rfl rfl (by decide +kernel) ⟨Nat.le_of_ble_eq_true rfl, Nat.le_of_ble_eq_true rfl⟩) ⟨gb_W, va_recv hKc hPc (ci := 1) (q0 := 0) rfl rfl, fun U hU hW => ⟨rfl, by rw [hU], by rw [hU]; exact hPc, va_K.moved hW.alike hKc, hDc.weaken (fun _ _ _ _ => trivial)⟩⟩ rfl rfl hl.1 rfl (lv_room (Nat.le_of_ble_eq_true rfl)) dL_law_331 ⟨by show 18 + q + 1 + 0 ≤ 1056; omega, by show 67055 + 6 * q + 6 + 0 ≤ 75331; omega⟩) hS (fun q _ h => hFc q h) hFc (fun r_8 u2 t H1 locs ht hvm hw2 hB2 hz1 hk1 hS => ?_)
    rw [if_pos hLg] at hw2
    subst hw2
    obtain ⟨ks3, ct3, sm3, le3, gr3, hr3, hP1, hK1, hD1⟩ := hB2.1 hLg
    rw [ht] at hP1
    obtain ⟨hP, hD⟩ := va_join (wr := ((wX a k (nI wn) (nI mn) (nI (takeT wn fk fa (xs ((4 * q) + 1)).toInt64 T).1.1) fk fa sl1 ks1 ct1 sm1 le1 gr1) ++ [(a9, .inl (k9, 1, .inr (.inl (vp_updL ov 0 (if (takeT wn fk fa (xs ((4 * q) + 1)).toInt64 T).2 = true then nI (takeT wn fk fa (xs ((4 * q) + 1)).toInt64 T).1.1 else (-2)).toInt64))))])) (w1 := (wM b d 0 (nI wn) (nI mn) (nI (takeT wn fk fa (xs ((4 * q) + 1)).toInt64 T).1.1) ks3 ct3 sm3 le3 gr3 fk fa)) hP hD [9, 10, 11, 12, 13, 14, 15, 16] [0, 1, 2, 3, 4, 5, 6, 7, 8, 17] rfl rfl (by decide) (by decide) hk1 hFc hP1 hD1
    have hP := hP.sub (ws' := ((wX a k (nI wn) (nI mn) (nI (takeT wn fk fa (xs ((4 * q) + 1)).toInt64 T).1.1) fk fa sl1 ks1 ct1 sm1 le1 gr1) ++ (wM b d 0 (nI wn) (nI mn) (nI (takeT wn fk fa (xs ((4 * q) + 1)).toInt64 T).1.1) ks3 ct3 sm3 le3 gr3 fk fa) ++ [(a9, .inl (k9, 1, .inr (.inl (vp_updL ov 0 (if (takeT wn fk fa (xs ((4 * q) + 1)).toInt64 T).2 = true then nI (takeT wn fk fa (xs ((4 * q) + 1)).toInt64 T).1.1 else (-2)).toInt64))))])) [0, 1, 2, 3, 4, 5, 6, 7, 8, 10, 11, 12, 13, 14, 15, 16, 17, 9] rfl
    have hD := hD.sub (ws' := ((wX a k (nI wn) (nI mn) (nI (takeT wn fk fa (xs ((4 * q) + 1)).toInt64 T).1.1) fk fa sl1 ks1 ct1 sm1 le1 gr1) ++ (wM b d 0 (nI wn) (nI mn) (nI (takeT wn fk fa (xs ((4 * q) + 1)).toInt64 T).1.1) ks3 ct3 sm3 le3 gr3 fk fa) ++ [(a9, .inl (k9, 1, .inr (.inl (vp_updL ov 0 (if (takeT wn fk fa (xs ((4 * q) + 1)).toInt64 T).2 = true then nI (takeT wn fk fa (xs ((4 * q) + 1)).toInt64 T).1.1 else (-2)).toInt64))))])) [0, 1, 2, 3, 4, 5, 6, 7, 8, 10, 11, 12, 13, 14, 15, 16, 17, 9] (by decide) rfl
    have hP : va_P (dC, dI) classes ((wX a k (nI wn) (nI mn) (nI (takeT wn fk fa (xs ((4 * q) + 1)).toInt64 T).1.1) fk fa sl1 ks1 ct1 sm1 le1 gr1) ++ (wM b d 0 (nI wn) (nI mn) (nI (takeT wn fk fa (xs ((4 * q) + 1)).toInt64 T).1.1) ks3 ct3 sm3 le3 gr3 fk fa) ++ [(a9, .inl (k9, 1, .inr (.inl (vp_updL ov 0 (if (takeT wn fk fa (xs ((4 * q) + 1)).toInt64 T).2 = true then nI (takeT wn fk fa (xs ((4 * q) + 1)).toInt64 T).1.1 else (-2)).toInt64))))]) H1 := hP
    have hD : va_D (fun q : Nat => s.heap.size ≤ q) ((wX a k (nI wn) (nI mn) (nI (takeT wn fk fa (xs ((4 * q) + 1)).toInt64 T).1.1) fk fa sl1 ks1 ct1 sm1 le1 gr1) ++ (wM b d 0 (nI wn) (nI mn) (nI (takeT wn fk fa (xs ((4 * q) + 1)).toInt64 T).1.1) ks3 ct3 sm3 le3 gr3 fk fa) ++ [(a9, .inl (k9, 1, .inr (.inl (vp_updL ov 0 (if (takeT wn fk fa (xs ((4 * q) + 1)).toInt64 T).2 = true then nI (takeT wn fk fa (xs ((4 * q) + 1)).toInt64 T).1.1 else (-2)).toInt64))))]) := hD
    generalize H1 = H at hP hS ⊢
    have hP : va_P (dC, dI) classes ((wX a k (nI wn) (nI mn) (nI (takeT wn fk fa (xs ((4 * q) + 1)).toInt64 T).1.1) fk fa sl1 ks1 ct1 sm1 le1 gr1) ++ (wM b d 0 (nI wn) (nI mn) (nI (takeT wn fk fa (xs ((4 * q) + 1)).toInt64 T).1.1) ks3 ct3 sm3 le3 gr3 fk fa) ++ [(a9, .inl (k9, 1, .inr (.inl (vp_updL ov 0 (if (takeT wn fk fa (xs ((4 * q) + 1)).toInt64 T).2 = true then nI (takeT wn fk fa (xs ((4 * q) + 1)).toInt64 T).1.1 else (-2)).toInt64))))]) H := hP
    have hD : va_D (fun q : Nat => s.heap.size ≤ q) ((wX a k (nI wn) (nI mn) (nI (takeT wn fk fa (xs ((4 * q) + 1)).toInt64 T).1.1) fk fa sl1 ks1 ct1 sm1 le1 gr1) ++ (wM b d 0 (nI wn) (nI mn) (nI (takeT wn fk fa (xs ((4 * q) + 1)).toInt64 T).1.1) ks3 ct3 sm3 le3 gr3 fk fa) ++ [(a9, .inl (k9, 1, .inr (.inl (vp_updL ov 0 (if (takeT wn fk fa (xs ((4 * q) + 1)).toInt64 T).2 = true then nI (takeT wn fk fa (xs ((4 * q) + 1)).toInt64 T).1.1 else (-2)).toInt64))))]) := hD
    show W p l e room_1 s m #[Value.ref sb] below meth c H locs (18 + q + 1 + 0) (67055 + 6 * q + 6 + 0) (lw_Z below #[Value.ref sb] s) (F0 m 334 ls [.int (if (takeT wn fk fa (xs ((4 * q) + 1)).toInt64 T).2 = true then nI (takeT wn fk fa (xs ((4 * q) + 1)).toInt64 T).1.1 else (-2))])
    refine lv_istore (lv' := [(6, .int (if (takeT wn fk fa (xs ((4 * q) + 1)).toInt64 T).2 = true then nI (takeT wn fk fa (xs ((4 * q) + 1)).toInt64 T).1.1 else (-2))), (5, .int 0), (0, .ref sb), (1, .ref (a 0)), (2, .ref (b 0)), (3, .ref a9), (4, .int (nI (4 * q)))]) hx hb dL_law_334 hl (by decide) rfl (fun ls hl => ?_)
    refine lv_aload_n hx hb dL_law_336 rfl (lv_at hl 4 rfl) ?_
    refine gi_callR (v := .int 0) (W.runV (As := []) (rest := []) ⟨hx, hb, hml, hown, hta⟩ (c_thrown l dC dI b d 0 (nI wn) (nI mn) (nI (takeT wn fk fa (xs ((4 * q) + 1)).toInt64 T).1.1) ks3 ct3 sm3 le3 gr3 fk fa) (cwV 0 hta (gV w312 w313 w314 w2 w315) rfl rfl rfl (by decide +kernel) ⟨Nat.le_of_ble_eq_true rfl, Nat.le_of_ble_eq_true rfl⟩) ⟨gb_R, va_recv hK hP (ci := 1) (q0 := 9) rfl rfl, fun U hU hW => ⟨rfl, by rw [hU]; exact hP.sub (ws' := (wM b d 0 (nI wn) (nI mn) (nI (takeT wn fk fa (xs ((4 * q) + 1)).toInt64 T).1.1) ks3 ct3 sm3 le3 gr3 fk fa)) [9, 10, 11, 12, 13, 14, 15, 16] rfl, va_K.moved hW.alike (hK.sub (tys' := kM d) [8, 9, 10, 11, 12, 13, 14] rfl)⟩⟩ rfl rfl hl.1 rfl (lv_room (Nat.le_of_ble_eq_true rfl)) dL_law_337 ⟨by show 18 + q + 1 + 0 ≤ 1056; omega, by show 67055 + 6 * q + 6 + 0 ≤ 75331; omega⟩) ?_
    refine lv_iload hx hb dL_law_340 (lv_at hl 1 rfl) ?_
    refine lv_icmp_eq (tgt := 347) hx hb dL_law_342 (by decide) (fun h1 => ?_) (fun h1 => ?_)
    rotate_left
    · skip
      exact absurd rfl h1
    · skip
      refine lv_iload hx hb dL_law_347 (lv_at hl 1 rfl) ?_
      refine lv_if_ne (tgt := 364) hx hb dL_law_349 (by decide) (fun h2 => ?_) (fun h2 => ?_)
      · skip
        exact absurd rfl h2
      · skip
        refine lv_aload_n hx hb dL_law_352 rfl (lv_at hl 5 rfl) ?_
        refine lv_iconst (v := 0) hx hb dL_law_353 (by decide) ?_
        refine gi_as (y := nI 0) (nI_0.symm) ?_
        refine gi_lald hx hb hK hP 17 15 rfl rfl (k := 0) (by omega) (by decide) dL_law_354 ?_
        refine gi_asl (y := (if (takeT wn fk fa (xs ((4 * q) + 1)).toInt64 T).2 = true then nI (takeT wn fk fa (xs ((4 * q) + 1)).toInt64 T).1.1 else (-2)).toInt64) (pk_uLs) ?_
        refine lv_iload hx hb dL_law_355 (lv_at hl 0 rfl) ?_
        refine lv_i2l (v := (if (takeT wn fk fa (xs ((4 * q) + 1)).toInt64 T).2 = true then nI (takeT wn fk fa (xs ((4 * q) + 1)).toInt64 T).1.1 else (-2)).toInt64) hx hb dL_law_357 rfl ?_
        refine W.lcmp (x := ((if (takeT wn fk fa (xs ((4 * q) + 1)).toInt64 T).2 = true then nI (takeT wn fk fa (xs ((4 * q) + 1)).toInt64 T).1.1 else (-2)).toInt64)) (y := ((if (takeT wn fk fa (xs ((4 * q) + 1)).toInt64 T).2 = true then nI (takeT wn fk fa (xs ((4 * q) + 1)).toInt64 T).1.1 else (-2)).toInt64)) hx hb dL_law_358 ?_
        refine lv_if_eq (tgt := 364) hx hb dL_law_359 (by decide) (fun h3 => ?_) (fun h3 => ?_)
        · skip
          refine lv_goto (tgt := 731) hx hb dL_law_364 (by decide) ?_
          have hl := lv_sub hl [2, 3, 4, 5, 6] rfl
          have hl : lv_has ls 8 [(0, .ref sb), (1, .ref (a 0)), (2, .ref (b 0)), (3, .ref a9), (4, .int (nI (4 * q)))] := hl
          exact nxt _ _ _ _ _ _ _ _ _ ls ⟨σ1, sl1, ks1, ct1, sm1, le1, gr1, ks3, ct3, sm3, le3, gr3, hσ1, hr1, hr3, hP, hD, hS⟩ hl
        · skip
          exact absurd ((lg_cmp_eq _ _).mpr rfl) h3
  · skip
    rw [if_neg hLg] at hw
    subst hw
    obtain ⟨σ1, sl1, ks1, ct1, sm1, le1, gr1, ⟨hσ1, hr1⟩, hP1, hK1, hD1⟩ := hB.2 hLg
    rw [ht] at hP1
    obtain ⟨hP, hD⟩ := va_join (wr := (wM b d cd (nI wn) (nI mn) (nI T.1) ks2 ct2 sm2 le2 gr2 fk fa)) (w1 := ((wX a k (nI wn) (nI mn) (nI T.1) fk fa sl1 ks1 ct1 sm1 le1 gr1) ++ [(a9, .inl (k9, 1, .inr (.inl ov)))])) hP hD [0, 1, 2, 3, 4, 5, 6, 7, 8, 17] [9, 10, 11, 12, 13, 14, 15, 16] rfl rfl (by decide) (by decide) hk1 hFc hP1 hD1
    have hP := hP.sub (ws' := ((wX a k (nI wn) (nI mn) (nI T.1) fk fa sl1 ks1 ct1 sm1 le1 gr1) ++ (wM b d cd (nI wn) (nI mn) (nI T.1) ks2 ct2 sm2 le2 gr2 fk fa) ++ [(a9, .inl (k9, 1, .inr (.inl ov)))])) [8, 9, 10, 11, 12, 13, 14, 15, 16, 0, 1, 2, 3, 4, 5, 6, 7, 17] rfl
    have hD := hD.sub (ws' := ((wX a k (nI wn) (nI mn) (nI T.1) fk fa sl1 ks1 ct1 sm1 le1 gr1) ++ (wM b d cd (nI wn) (nI mn) (nI T.1) ks2 ct2 sm2 le2 gr2 fk fa) ++ [(a9, .inl (k9, 1, .inr (.inl ov)))])) [8, 9, 10, 11, 12, 13, 14, 15, 16, 0, 1, 2, 3, 4, 5, 6, 7, 17] (by decide) rfl
    have hP : va_P (dC, dI) classes ((wX a k (nI wn) (nI mn) (nI T.1) fk fa sl1 ks1 ct1 sm1 le1 gr1) ++ (wM b d cd (nI wn) (nI mn) (nI T.1) ks2 ct2 sm2 le2 gr2 fk fa) ++ [(a9, .inl (k9, 1, .inr (.inl ov)))]) H1 := hP
    have hD : va_D (fun q : Nat => s.heap.size ≤ q) ((wX a k (nI wn) (nI mn) (nI T.1) fk fa sl1 ks1 ct1 sm1 le1 gr1) ++ (wM b d cd (nI wn) (nI mn) (nI T.1) ks2 ct2 sm2 le2 gr2 fk fa) ++ [(a9, .inl (k9, 1, .inr (.inl ov)))]) := hD
    generalize H1 = H at hP hS ⊢
    have hP : va_P (dC, dI) classes ((wX a k (nI wn) (nI mn) (nI T.1) fk fa sl1 ks1 ct1 sm1 le1 gr1) ++ (wM b d cd (nI wn) (nI mn) (nI T.1) ks2 ct2 sm2 le2 gr2 fk fa) ++ [(a9, .inl (k9, 1, .inr (.inl ov)))]) H := hP
    have hD : va_D (fun q : Nat => s.heap.size ≤ q) ((wX a k (nI wn) (nI mn) (nI T.1) fk fa sl1 ks1 ct1 sm1 le1 gr1) ++ (wM b d cd (nI wn) (nI mn) (nI T.1) ks2 ct2 sm2 le2 gr2 fk fa) ++ [(a9, .inl (k9, 1, .inr (.inl ov)))]) := hD
    show W p l e room_1 s m #[Value.ref sb] below meth c H locs (18 + q + 1) (67055 + 6 * q + 6) (lw_Z below #[Value.ref sb] s) (F0 m 322 ls [.int 1])
    refine lv_istore (lv' := [(5, .int 1), (0, .ref sb), (1, .ref (a 0)), (2, .ref (b 0)), (3, .ref a9), (4, .int (nI (4 * q)))]) hx hb dL_law_322 hl (by decide) rfl (fun ls hl => ?_)
    refine lv_aload_n hx hb dL_law_324 rfl (lv_at hl 3 rfl) ?_
    refine lv_aload_n hx hb dL_law_325 rfl (lv_at hl 1 rfl) ?_
    refine lv_iload hx hb dL_law_326 (lv_at hl 5 rfl) ?_
    refine lv_iconst (v := 1) hx hb dL_law_328 (by decide) ?_
    refine lv_iadd hx hb dL_law_329 ?_
    refine gi_as (y := nI ((4 * q) + 1)) (nI_1 _) ?_
    refine va_sld hx hb hX hbl hbA hS (vp_in_nI (n := ((4 * q) + 1)) (by omega) (by omega)) dL_law_330 ?_
    refine gi_as (y := xs ((4 * q) + 1)) (by rw [nI_clamp (by omega)]) ?_
    have hPc := hP.sub (ws' := (wM b d cd (nI wn) (nI mn) (nI T.1) ks2 ct2 sm2 le2 gr2 fk fa)) [9, 10, 11, 12, 13, 14, 15, 16] rfl
    have hDc := hD.sub (ws' := (wM b d cd (nI wn) (nI mn) (nI T.1) ks2 ct2 sm2 le2 gr2 fk fa)) [9, 10, 11, 12, 13, 14, 15, 16] (by decide) rfl
    have hKc := hK.sub (tys' := (kM d)) [8, 9, 10, 11, 12, 13, 14] rfl
    have hFc := va_free (wc := (wM b d cd (nI wn) (nI mn) (nI T.1) ks2 ct2 sm2 le2 gr2 fk fa)) hD hS hA [9, 10, 11, 12, 13, 14, 15, 16] rfl
    refine va_calli (va_runV (As := [.int (xs ((4 * q) + 1))]) (rest := []) ⟨hx, hb, hml, hown, hta⟩ (c_Madd l dC dI b d cd wn mn fk fa T ks2 ct2 sm2 le2 gr2 hrep2 (xs ((4 * q) + 1)) H.size) (cwV 1 hta (gV w328 w329 w330 w2 w331) rfl rfl rfl (by decide +kernel) ⟨Nat.le_of_ble_eq_true rfl, Nat.le_of_ble_eq_true rfl⟩) ⟨gb_W, va_recv hKc hPc (ci := 1) (q0 := 0) rfl rfl, fun U hU hW => ⟨rfl, by rw [hU], by rw [hU]; exact hPc, va_K.moved hW.alike hKc, hDc.weaken (fun _ _ _ _ => trivial)⟩⟩ rfl rfl hl.1 rfl (lv_room (Nat.le_of_ble_eq_true rfl)) dL_law_331 ⟨by show 18 + q + 1 + 0 ≤ 1056; omega, by show 67055 + 6 * q + 6 + 0 ≤ 75331; omega⟩) hS (fun q _ h => hFc q h) hFc (fun r_8 u2 t H1 locs ht hvm hw2 hB2 hz1 hk1 hS => ?_)
    rw [if_neg hLg] at hw2
    subst hw2
    obtain ⟨ks3, ct3, sm3, le3, gr3, hr3, hP1, hK1, hD1⟩ := hB2.2 hLg
    rw [ht] at hP1
    obtain ⟨hP, hD⟩ := va_join (wr := ((wX a k (nI wn) (nI mn) (nI T.1) fk fa sl1 ks1 ct1 sm1 le1 gr1) ++ [(a9, .inl (k9, 1, .inr (.inl ov)))])) (w1 := (wM b d 1 (nI wn) (nI mn) (nI T.1) ks3 ct3 sm3 le3 gr3 fk fa)) hP hD [9, 10, 11, 12, 13, 14, 15, 16] [0, 1, 2, 3, 4, 5, 6, 7, 8, 17] rfl rfl (by decide) (by decide) hk1 hFc hP1 hD1
    have hP := hP.sub (ws' := ((wX a k (nI wn) (nI mn) (nI T.1) fk fa sl1 ks1 ct1 sm1 le1 gr1) ++ (wM b d 1 (nI wn) (nI mn) (nI T.1) ks3 ct3 sm3 le3 gr3 fk fa) ++ [(a9, .inl (k9, 1, .inr (.inl ov)))])) [0, 1, 2, 3, 4, 5, 6, 7, 8, 10, 11, 12, 13, 14, 15, 16, 17, 9] rfl
    have hD := hD.sub (ws' := ((wX a k (nI wn) (nI mn) (nI T.1) fk fa sl1 ks1 ct1 sm1 le1 gr1) ++ (wM b d 1 (nI wn) (nI mn) (nI T.1) ks3 ct3 sm3 le3 gr3 fk fa) ++ [(a9, .inl (k9, 1, .inr (.inl ov)))])) [0, 1, 2, 3, 4, 5, 6, 7, 8, 10, 11, 12, 13, 14, 15, 16, 17, 9] (by decide) rfl
    have hP : va_P (dC, dI) classes ((wX a k (nI wn) (nI mn) (nI T.1) fk fa sl1 ks1 ct1 sm1 le1 gr1) ++ (wM b d 1 (nI wn) (nI mn) (nI T.1) ks3 ct3 sm3 le3 gr3 fk fa) ++ [(a9, .inl (k9, 1, .inr (.inl ov)))]) H1 := hP
    have hD : va_D (fun q : Nat => s.heap.size ≤ q) ((wX a k (nI wn) (nI mn) (nI T.1) fk fa sl1 ks1 ct1 sm1 le1 gr1) ++ (wM b d 1 (nI wn) (nI mn) (nI T.1) ks3 ct3 sm3 le3 gr3 fk fa) ++ [(a9, .inl (k9, 1, .inr (.inl ov)))]) := hD
    generalize H1 = H at hP hS ⊢
    have hP : va_P (dC, dI) classes ((wX a k (nI wn) (nI mn) (nI T.1) fk fa sl1 ks1 ct1 sm1 le1 gr1) ++ (wM b d 1 (nI wn) (nI mn) (nI T.1) ks3 ct3 sm3 le3 gr3 fk fa) ++ [(a9, .inl (k9, 1, .inr (.inl ov)))]) H := hP
    have hD : va_D (fun q : Nat => s.heap.size ≤ q) ((wX a k (nI wn) (nI mn) (nI T.1) fk fa sl1 ks1 ct1 sm1 le1 gr1) ++ (wM b d 1 (nI wn) (nI mn) (nI T.1) ks3 ct3 sm3 le3 gr3 fk fa) ++ [(a9, .inl (k9, 1, .inr (.inl ov)))]) := hD
    show W p l e room_1 s m #[Value.ref sb] below meth c H locs (18 + q + 1 + 0) (67055 + 6 * q + 6 + 0) (lw_Z below #[Value.ref sb] s) (F0 m 334 ls [.int 0])
    refine lv_istore (lv' := [(6, .int 0), (5, .int 1), (0, .ref sb), (1, .ref (a 0)), (2, .ref (b 0)), (3, .ref a9), (4, .int (nI (4 * q)))]) hx hb dL_law_334 hl (by decide) rfl (fun ls hl => ?_)
    refine lv_aload_n hx hb dL_law_336 rfl (lv_at hl 4 rfl) ?_
    refine gi_callR (v := .int 1) (W.runV (As := []) (rest := []) ⟨hx, hb, hml, hown, hta⟩ (c_thrown l dC dI b d 1 (nI wn) (nI mn) (nI T.1) ks3 ct3 sm3 le3 gr3 fk fa) (cwV 0 hta (gV w312 w313 w314 w2 w315) rfl rfl rfl (by decide +kernel) ⟨Nat.le_of_ble_eq_true rfl, Nat.le_of_ble_eq_true rfl⟩) ⟨gb_R, va_recv hK hP (ci := 1) (q0 := 9) rfl rfl, fun U hU hW => ⟨rfl, by rw [hU]; exact hP.sub (ws' := (wM b d 1 (nI wn) (nI mn) (nI T.1) ks3 ct3 sm3 le3 gr3 fk fa)) [9, 10, 11, 12, 13, 14, 15, 16] rfl, va_K.moved hW.alike (hK.sub (tys' := kM d) [8, 9, 10, 11, 12, 13, 14] rfl)⟩⟩ rfl rfl hl.1 rfl (lv_room (Nat.le_of_ble_eq_true rfl)) dL_law_337 ⟨by show 18 + q + 1 + 0 ≤ 1056; omega, by show 67055 + 6 * q + 6 + 0 ≤ 75331; omega⟩) ?_
    refine lv_iload hx hb dL_law_340 (lv_at hl 1 rfl) ?_
    refine lv_icmp_eq (tgt := 347) hx hb dL_law_342 (by decide) (fun h1 => ?_) (fun h1 => ?_)
    rotate_left
    · skip
      exact absurd rfl h1
    · skip
      refine lv_iload hx hb dL_law_347 (lv_at hl 1 rfl) ?_
      refine lv_if_ne (tgt := 364) hx hb dL_law_349 (by decide) (fun h2 => ?_) (fun h2 => ?_)
      · skip
        refine lv_goto (tgt := 731) hx hb dL_law_364 (by decide) ?_
        have hl := lv_sub hl [2, 3, 4, 5, 6] rfl
        have hl : lv_has ls 8 [(0, .ref sb), (1, .ref (a 0)), (2, .ref (b 0)), (3, .ref a9), (4, .int (nI (4 * q)))] := hl
        exact nxt _ _ _ _ _ _ _ _ _ ls ⟨σ1, sl1, ks1, ct1, sm1, le1, gr1, ks3, ct3, sm3, le3, gr3, hσ1, hr1, hr3, hP, hD, hS⟩ hl
      · skip
        exact absurd h2 (by decide)
