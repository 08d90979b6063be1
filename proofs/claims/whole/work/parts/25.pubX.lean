set_option maxHeartbeats 4000000 in
set_option maxRecDepth 100000 in
/-- key -/
theorem c_key (l : Launch) (hnt : l.stackTraces = false) (dC : Nat → ClassId) (dI : Nat → Nat → Nat) (a : Nat → Nat) (k : Nat → ClassId) (wn mn : Nat) (fk : Nat → Int32) (fa : Nat → Int64) (T : TB) (σ : Nat → Nat) (sl ks : Nat → Int32) (ct sm le gr : Nat → Int64) (hσ : perm σ sl) (hrep : repT σ wn mn T ks ct sm le gr) (i v : Int32) (sz : Nat) : vx_Met l yX_key (Cond.code yX_key bX_key 4 (some .int) :: wAll) { frames := 6, cells := 1, slots := 6, locals := 160 } (va_Pc [.ref (a 0), .int i, .int v] (fun U => U.heap.size = sz ∧ va_P (dC, dI) classes (wX a k (nI wn) (nI mn) (nI T.1) fk fa sl ks ct sm le gr) U.heap ∧ va_K (dC, dI) classes (kX k) U ∧ va_D (fun _ => True) (wX a k (nI wn) (nI mn) (nI T.1) fk fa sl ks ct sm le gr) ∧ thrE (va_A (wX a k (nI wn) (nI mn) (nI T.1) fk fa sl ks ct sm le gr) sz) U U.heap)) (va_Qi (fun (r9 : Int32) (_ : Unit) => (0 ≤ i ∧ i < nI wn) ∧ r9 = (fk i.toNatClampNeg)) (fun (_ : Unit) (t9 : State) => atX dC dI (va_A (wX a k (nI wn) (nI mn) (nI T.1) fk fa sl ks ct sm le gr) sz) a k wn mn (upd fk i.toNatClampNeg v) fa T t9) (va_A (wX a k (nI wn) (nI mn) (nI T.1) fk fa sl ks ct sm le gr) sz)) (vx_X (fun _ : Unit => ¬ (0 ≤ i ∧ i < nI wn)) (fun (E9 : String) (_ : Unit) (t9 : State) => E9 = "java/lang/IllegalArgumentException" ∧ va_P (dC, dI) classes (wX a k (nI wn) (nI mn) (nI T.1) fk fa sl ks ct sm le gr) t9.heap ∧ va_K (dC, dI) classes (kX k) t9 ∧ va_D (va_A (wX a k (nI wn) (nI mn) (nI T.1) fk fa sl ks ct sm le gr) sz) (wX a k (nI wn) (nI mn) (nI T.1) fk fa sl ks ct sm le gr)) (va_A (wX a k (nI wn) (nI mn) (nI T.1) fk fa sl ks ct sm le gr) sz)) 1 6 (va_A (wX a k (nI wn) (nI mn) (nI T.1) fk fa sl ks ct sm le gr) sz) := by
  refine vx_ofW (cc := bX_key) (maxL := 4) (ret := (some .int)) (by decide) rfl ?_
  intro p e s m args below meth c s₁ B hml hno hv
  obtain ⟨rfl, hsz, hP, hK, hD0, hT⟩ := hv
  have hx := B.exec
  have hb := B.bytes
  have hr := B.returns
  have hta : ∀ w ∈ wAll, w.before ([.ref (a 0), .int i, .int v] : List Value).toArray s = true := fun w h => atoms_spec (ws := (Cond.code yX_key bX_key 4 (some .int) :: wAll)) B.pre w (List.mem_cons_of_mem _ h)
  have hown : s.vm.findClass "GroupRows" = some m.cls := findClass_of_methodNamed B.named
  have hlocks := B.notSynchronized
  subst hsz
  have hD := hD0.self (sz := s.heap.size)
  generalize hAe : va_A (wX a k (nI wn) (nI mn) (nI T.1) fk fa sl ks ct sm le gr) s.heap.size = A at hD hT ⊢
  have hA : ∀ q : Nat, s.heap.size ≤ q → A q := fun q h => by rw [← hAe]; exact Or.inr h
  have hS : va_S A s.heap s.heap [] := va_S.rf
  have hP : va_P (dC, dI) classes (wX a k (nI wn) (nI mn) (nI T.1) fk fa sl ks ct sm le gr) s.heap := hP
  have hl := lv_entry ([.ref (a 0), .int i, .int v]) (n := 4) (Nat.le_of_ble_eq_true rfl)
  rw [lg_entry_eq]
  generalize (lg_sl ([.ref (a 0), .int i, .int v]) ++ List.replicate (4 - (lg_sl ([.ref (a 0), .int i, .int v])).length) Slot.unset).toArray = ls at hl ⊢
  have hl : lv_has ls 4 [(0, .ref (a 0)), (1, .int i), (2, .int v)] := hl
  obtain ⟨⟨hwn, hmn1, hmn, hn⟩, hk9, hc9, hv9, hs9⟩ := id hrep
  refine lv_aload_n hx hb dX_key_0 rfl (lv_at hl 0 rfl) ?_
  refine lv_iload_n hx hb dX_key_1 rfl (lv_at hl 1 rfl) ?_
  refine gi_callR (v := .int (if 0 ≤ i ∧ i < nI wn then 1 else 0)) (W.runV (As := [.int i]) (rest := []) ⟨hx, hb, hml, hown, hta⟩ (c_isPart l dC dI a k (nI wn) (nI mn) (nI T.1) fk fa sl ks ct sm le gr i) (cwV 1 hta (gV w166 w168 sX_isPart w1 w169) rfl rfl rfl (by decide +kernel) ⟨Nat.le_of_ble_eq_true rfl, Nat.le_of_ble_eq_true rfl⟩) ⟨gb_R, va_recv hK hP (ci := 0) (q0 := 0) rfl rfl, fun U hU hW => ⟨rfl, by rw [hU]; exact hP, va_K.moved hW.alike hK⟩⟩ rfl rfl hl.1 rfl (lv_room (Nat.le_of_ble_eq_true rfl)) dX_key_2 ⟨Nat.le_of_ble_eq_true rfl, Nat.le_of_ble_eq_true rfl⟩) ?_
  refine lv_if_ne (tgt := 18) hx hb dX_key_5 (by decide) (fun h1 => ?_) (fun h1 => ?_)
  rotate_left
  · skip
    have hn9 : ¬ (0 ≤ i ∧ i < nI wn) := fun q => by rw [if_pos q] at h1; exact absurd h1 (by decide)
    exact gx_throw (is := 67) (text := "there is no such part") hx hb hnt hown hta hT hS (hl.1.trans hml.symm) (by decide) dX_key_8 dX_key_11 dX_key_12 dX_key_14 dX_key_17 hno (Nat.le_of_ble_eq_true rfl) (Nat.le_of_ble_eq_true rfl) (Nat.le_of_ble_eq_true rfl) (Nat.le_of_ble_eq_true rfl) hlocks (fun t9 hv9 hz9 hk9 => ⟨(), hn9, ⟨rfl, gx_P hP hk9, va_K.moved hv9 hK, hD⟩, gx_F hS hz9 hk9⟩) hS.2.2 (Nat.le_of_ble_eq_true rfl) (Nat.le_of_ble_eq_true rfl)
  · skip
    have hL : 0 ≤ i ∧ i < nI wn := by
      by_cases q : 0 ≤ i ∧ i < nI wn
      · exact q
      · rw [if_neg q] at h1; exact absurd rfl h1
    obtain ⟨j, hj, ej, cj⟩ := in_nI (by omega) hL
    subst ej
    refine lv_aload_n hx hb dX_key_18 rfl (lv_at hl 0 rfl) ?_
    refine va_get (D := (dC, dI)) (ci := 0) (v := .ref (a 1)) (C := "GroupRows") (T := FX) (N := 11) hx hb hta inX hown hK hP 0 rfl rfl 3 (by decide) (hta _ w22) (fun _ h9 => h9) rfl dX_key_19 ?_
    refine lv_iload_n hx hb dX_key_22 rfl (lv_at hl 1 rfl) ?_
    refine gi_iald hx hb hK hP 1 0 rfl rfl (k := j) (by omega) (by decide) dX_key_23 ?_
    refine lv_istore_n (lv' := [(3, .int (fk j)), (0, .ref (a 0)), (1, .int (nI j)), (2, .int v)]) hx hb dX_key_24 rfl hl (by decide) rfl (fun ls hl => ?_)
    refine lv_aload_n hx hb dX_key_25 rfl (lv_at hl 1 rfl) ?_
    refine va_get (D := (dC, dI)) (ci := 0) (v := .ref (a 1)) (C := "GroupRows") (T := FX) (N := 11) hx hb hta inX hown hK hP 0 rfl rfl 3 (by decide) (hta _ w22) (fun _ h9 => h9) rfl dX_key_26 ?_
    refine lv_iload_n hx hb dX_key_29 rfl (lv_at hl 2 rfl) ?_
    refine lv_iload_n hx hb dX_key_30 rfl (lv_at hl 3 rfl) ?_
    refine gi_iast hx hb hK hP hD hS 1 0 rfl rfl (k := j) (by omega) (by decide) dX_key_31 (fun H locs hP hD hS => ?_)
    have hP : va_P (dC, dI) classes (wX a k (nI wn) (nI mn) (nI T.1) (upd fk j v) fa sl ks ct sm le gr) H := hP
    have hD : va_D A (wX a k (nI wn) (nI mn) (nI T.1) (upd fk j v) fa sl ks ct sm le gr) := hD
    refine lv_iload_n hx hb dX_key_32 rfl (lv_at hl 0 rfl) ?_
    refine vx_ret ?_
    refine W.widen (k := 1) (n := 6) (Nat.zero_le _) (Nat.zero_le _) ?_
    exact W.iret (v := (fk j)) hx hb hr (fun t9 ht9 hW9 => ⟨⟨(fk j), (), rfl, ⟨hL, by rw [cj]⟩, by rw [cj]; exact ⟨σ, sl, ks, ct, sm, le, gr, ⟨hσ, hrep⟩, by rw [ht9]; exact hP, va_K.moved hW9.alike hK, hD⟩⟩, hS.F ht9⟩) hS.2.2 dX_key_33
set_option maxHeartbeats 4000000 in
set_option maxRecDepth 100000 in
/-- amount -/
theorem c_amount (l : Launch) (hnt : l.stackTraces = false) (dC : Nat → ClassId) (dI : Nat → Nat → Nat) (a : Nat → Nat) (k : Nat → ClassId) (wn mn : Nat) (fk : Nat → Int32) (fa : Nat → Int64) (T : TB) (σ : Nat → Nat) (sl ks : Nat → Int32) (ct sm le gr : Nat → Int64) (hσ : perm σ sl) (hrep : repT σ wn mn T ks ct sm le gr) (m0 : Int32) (v : Int64) (sz : Nat) : vx_Met l yX_amount (Cond.code yX_amount bX_amount 6 (some .long) :: wAll) { frames := 6, cells := 1, slots := 6, locals := 160 } (va_Pc [.ref (a 0), .int m0, .long v] (fun U => U.heap.size = sz ∧ va_P (dC, dI) classes (wX a k (nI wn) (nI mn) (nI T.1) fk fa sl ks ct sm le gr) U.heap ∧ va_K (dC, dI) classes (kX k) U ∧ va_D (fun _ => True) (wX a k (nI wn) (nI mn) (nI T.1) fk fa sl ks ct sm le gr) ∧ thrE (va_A (wX a k (nI wn) (nI mn) (nI T.1) fk fa sl ks ct sm le gr) sz) U U.heap)) (va_Ql (fun (r9 : Int64) (_ : Unit) => (0 ≤ m0 ∧ m0 < nI mn) ∧ r9 = (fa m0.toNatClampNeg)) (fun (_ : Unit) (t9 : State) => atX dC dI (va_A (wX a k (nI wn) (nI mn) (nI T.1) fk fa sl ks ct sm le gr) sz) a k wn mn fk (vp_updL fa m0.toNatClampNeg v) T t9) (va_A (wX a k (nI wn) (nI mn) (nI T.1) fk fa sl ks ct sm le gr) sz)) (vx_X (fun _ : Unit => ¬ (0 ≤ m0 ∧ m0 < nI mn)) (fun (E9 : String) (_ : Unit) (t9 : State) => E9 = "java/lang/IllegalArgumentException" ∧ va_P (dC, dI) classes (wX a k (nI wn) (nI mn) (nI T.1) fk fa sl ks ct sm le gr) t9.heap ∧ va_K (dC, dI) classes (kX k) t9 ∧ va_D (va_A (wX a k (nI wn) (nI mn) (nI T.1) fk fa sl ks ct sm le gr) sz) (wX a k (nI wn) (nI mn) (nI T.1) fk fa sl ks ct sm le gr)) (va_A (wX a k (nI wn) (nI mn) (nI T.1) fk fa sl ks ct sm le gr) sz)) 1 6 (va_A (wX a k (nI wn) (nI mn) (nI T.1) fk fa sl ks ct sm le gr) sz) := by
  refine vx_ofW (cc := bX_amount) (maxL := 6) (ret := (some .long)) (by decide) rfl ?_
  intro p e s m args below meth c s₁ B hml hno hv
  obtain ⟨rfl, hsz, hP, hK, hD0, hT⟩ := hv
  have hx := B.exec
  have hb := B.bytes
  have hr := B.returns
  have hta : ∀ w ∈ wAll, w.before ([.ref (a 0), .int m0, .long v] : List Value).toArray s = true := fun w h => atoms_spec (ws := (Cond.code yX_amount bX_amount 6 (some .long) :: wAll)) B.pre w (List.mem_cons_of_mem _ h)
  have hown : s.vm.findClass "GroupRows" = some m.cls := findClass_of_methodNamed B.named
  have hlocks := B.notSynchronized
  subst hsz
  have hD := hD0.self (sz := s.heap.size)
  generalize hAe : va_A (wX a k (nI wn) (nI mn) (nI T.1) fk fa sl ks ct sm le gr) s.heap.size = A at hD hT ⊢
  have hA : ∀ q : Nat, s.heap.size ≤ q → A q := fun q h => by rw [← hAe]; exact Or.inr h
  have hS : va_S A s.heap s.heap [] := va_S.rf
  have hP : va_P (dC, dI) classes (wX a k (nI wn) (nI mn) (nI T.1) fk fa sl ks ct sm le gr) s.heap := hP
  have hl := lv_entry ([.ref (a 0), .int m0, .long v]) (n := 6) (Nat.le_of_ble_eq_true rfl)
  rw [lg_entry_eq]
  generalize (lg_sl ([.ref (a 0), .int m0, .long v]) ++ List.replicate (6 - (lg_sl ([.ref (a 0), .int m0, .long v])).length) Slot.unset).toArray = ls at hl ⊢
  have hl : lv_has ls 6 [(0, .ref (a 0)), (1, .int m0), (2, .long v)] := hl
  obtain ⟨⟨hwn, hmn1, hmn, hn⟩, hk9, hc9, hv9, hs9⟩ := id hrep
  refine lv_aload_n hx hb dX_amount_0 rfl (lv_at hl 0 rfl) ?_
  refine lv_iload_n hx hb dX_amount_1 rfl (lv_at hl 1 rfl) ?_
  refine gi_callR (v := .int (if 0 ≤ m0 ∧ m0 < nI mn then 1 else 0)) (W.runV (As := [.int m0]) (rest := []) ⟨hx, hb, hml, hown, hta⟩ (c_isMeasure l dC dI a k (nI wn) (nI mn) (nI T.1) fk fa sl ks ct sm le gr m0) (cwV 1 hta (gV w178 w180 sX_isMeasure w1 w181) rfl rfl rfl (by decide +kernel) ⟨Nat.le_of_ble_eq_true rfl, Nat.le_of_ble_eq_true rfl⟩) ⟨gb_R, va_recv hK hP (ci := 0) (q0 := 0) rfl rfl, fun U hU hW => ⟨rfl, by rw [hU]; exact hP, va_K.moved hW.alike hK⟩⟩ rfl rfl hl.1 rfl (lv_room (Nat.le_of_ble_eq_true rfl)) dX_amount_2 ⟨Nat.le_of_ble_eq_true rfl, Nat.le_of_ble_eq_true rfl⟩) ?_
  refine lv_if_ne (tgt := 18) hx hb dX_amount_5 (by decide) (fun h1 => ?_) (fun h1 => ?_)
  rotate_left
  · skip
    have hn9 : ¬ (0 ≤ m0 ∧ m0 < nI mn) := fun q => by rw [if_pos q] at h1; exact absurd h1 (by decide)
    exact gx_throw (is := 72) (text := "there is no such measure") hx hb hnt hown hta hT hS (hl.1.trans hml.symm) (by decide) dX_amount_8 dX_amount_11 dX_amount_12 dX_amount_14 dX_amount_17 hno (Nat.le_of_ble_eq_true rfl) (Nat.le_of_ble_eq_true rfl) (Nat.le_of_ble_eq_true rfl) (Nat.le_of_ble_eq_true rfl) hlocks (fun t9 hv9 hz9 hk9 => ⟨(), hn9, ⟨rfl, gx_P hP hk9, va_K.moved hv9 hK, hD⟩, gx_F hS hz9 hk9⟩) hS.2.2 (Nat.le_of_ble_eq_true rfl) (Nat.le_of_ble_eq_true rfl)
  · skip
    have hL : 0 ≤ m0 ∧ m0 < nI mn := by
      by_cases q : 0 ≤ m0 ∧ m0 < nI mn
      · exact q
      · rw [if_neg q] at h1; exact absurd rfl h1
    obtain ⟨j, hj, ej, cj⟩ := in_nI (by omega) hL
    subst ej
    refine lv_aload_n hx hb dX_amount_18 rfl (lv_at hl 0 rfl) ?_
    refine va_get (D := (dC, dI)) (ci := 0) (v := .ref (a 2)) (C := "GroupRows") (T := FX) (N := 11) hx hb hta inX hown hK hP 0 rfl rfl 4 (by decide) (hta _ w23) (fun _ h9 => h9) rfl dX_amount_19 ?_
    refine lv_iload_n hx hb dX_amount_22 rfl (lv_at hl 1 rfl) ?_
    refine gi_lald hx hb hK hP 2 1 rfl rfl (k := j) (by omega) (by decide) dX_amount_23 ?_
    refine lv_lstore (lv' := [(4, .long (fa j)), (0, .ref (a 0)), (1, .int (nI j)), (2, .long v)]) hx hb dX_amount_24 hl (by decide) rfl (fun ls hl => ?_)
    refine lv_aload_n hx hb dX_amount_26 rfl (lv_at hl 1 rfl) ?_
    refine va_get (D := (dC, dI)) (ci := 0) (v := .ref (a 2)) (C := "GroupRows") (T := FX) (N := 11) hx hb hta inX hown hK hP 0 rfl rfl 4 (by decide) (hta _ w23) (fun _ h9 => h9) rfl dX_amount_27 ?_
    refine lv_iload_n hx hb dX_amount_30 rfl (lv_at hl 2 rfl) ?_
    refine lv_lload_n hx hb dX_amount_31 rfl (lv_at hl 3 rfl) ?_
    refine gi_last hx hb hK hP hD hS 2 1 rfl rfl (k := j) (by omega) (by decide) dX_amount_32 (fun H locs hP hD hS => ?_)
    have hP : va_P (dC, dI) classes (wX a k (nI wn) (nI mn) (nI T.1) fk (vp_updL fa j v) sl ks ct sm le gr) H := hP
    have hD : va_D A (wX a k (nI wn) (nI mn) (nI T.1) fk (vp_updL fa j v) sl ks ct sm le gr) := hD
    refine lv_lload hx hb dX_amount_33 (lv_at hl 0 rfl) ?_
    refine vx_ret ?_
    refine W.widen (k := 1) (n := 6) (Nat.zero_le _) (Nat.zero_le _) ?_
    exact W.lret (v := (fa j)) hx hb hr (fun t9 ht9 hW9 => ⟨⟨(fa j), (), rfl, ⟨hL, by rw [cj]⟩, by rw [cj]; exact ⟨σ, sl, ks, ct, sm, le, gr, ⟨hσ, hrep⟩, by rw [ht9]; exact hP, va_K.moved hW9.alike hK, hD⟩⟩, hS.F ht9⟩) hS.2.2 dX_amount_35
set_option maxHeartbeats 4000000 in
set_option maxRecDepth 100000 in
/-- add -/
theorem c_add (l : Launch) (hnt : l.stackTraces = false) (dC : Nat → ClassId) (dI : Nat → Nat → Nat) (a : Nat → Nat) (k : Nat → ClassId) (wn mn : Nat) (fk : Nat → Int32) (fa : Nat → Int64) (T : TB) (σ : Nat → Nat) (sl ks : Nat → Int32) (ct sm le gr : Nat → Int64) (hσ : perm σ sl) (hrep : repT σ wn mn T ks ct sm le gr) (nn : Int32) (sz : Nat) : vx_Met l yX_add (Cond.code yX_add bX_add 2 (some .int) :: wAll) { frames := 6, cells := 1, slots := 6, locals := 160 } (va_Pc [.ref (a 0), .int nn] (fun U => U.heap.size = sz ∧ va_P (dC, dI) classes (wX a k (nI wn) (nI mn) (nI T.1) fk fa sl ks ct sm le gr) U.heap ∧ va_K (dC, dI) classes (kX k) U ∧ va_D (fun _ => True) (wX a k (nI wn) (nI mn) (nI T.1) fk fa sl ks ct sm le gr) ∧ thrE (va_A (wX a k (nI wn) (nI mn) (nI T.1) fk fa sl ks ct sm le gr) sz) U U.heap)) (va_Qi (fun (r9 : Int32) (_ : Unit) => (1 ≤ nn ∧ nn ≤ 100000) ∧ r9 = (if (takeT wn fk fa nn.toInt64 T).2 = true then nI (takeT wn fk fa nn.toInt64 T).1.1 else (-2))) (fun (_ : Unit) (t9 : State) => atX dC dI (va_A (wX a k (nI wn) (nI mn) (nI T.1) fk fa sl ks ct sm le gr) sz) a k wn mn fk fa (takeT wn fk fa nn.toInt64 T).1 t9) (va_A (wX a k (nI wn) (nI mn) (nI T.1) fk fa sl ks ct sm le gr) sz)) (vx_X (fun _ : Unit => ¬ (1 ≤ nn ∧ nn ≤ 100000)) (fun (E9 : String) (_ : Unit) (t9 : State) => E9 = "java/lang/IllegalArgumentException" ∧ va_P (dC, dI) classes (wX a k (nI wn) (nI mn) (nI T.1) fk fa sl ks ct sm le gr) t9.heap ∧ va_K (dC, dI) classes (kX k) t9 ∧ va_D (va_A (wX a k (nI wn) (nI mn) (nI T.1) fk fa sl ks ct sm le gr) sz) (wX a k (nI wn) (nI mn) (nI T.1) fk fa sl ks ct sm le gr)) (va_A (wX a k (nI wn) (nI mn) (nI T.1) fk fa sl ks ct sm le gr) sz)) 1 6 (va_A (wX a k (nI wn) (nI mn) (nI T.1) fk fa sl ks ct sm le gr) sz) := by
  refine vx_ofW (cc := bX_add) (maxL := 2) (ret := (some .int)) (by decide) rfl ?_
  intro p e s m args below meth c s₁ B hml hno hv
  obtain ⟨rfl, hsz, hP, hK, hD0, hT⟩ := hv
  have hx := B.exec
  have hb := B.bytes
  have hr := B.returns
  have hta : ∀ w ∈ wAll, w.before ([.ref (a 0), .int nn] : List Value).toArray s = true := fun w h => atoms_spec (ws := (Cond.code yX_add bX_add 2 (some .int) :: wAll)) B.pre w (List.mem_cons_of_mem _ h)
  have hown : s.vm.findClass "GroupRows" = some m.cls := findClass_of_methodNamed B.named
  have hlocks := B.notSynchronized
  subst hsz
  have hD := hD0.self (sz := s.heap.size)
  generalize hAe : va_A (wX a k (nI wn) (nI mn) (nI T.1) fk fa sl ks ct sm le gr) s.heap.size = A at hD hT ⊢
  have hA : ∀ q : Nat, s.heap.size ≤ q → A q := fun q h => by rw [← hAe]; exact Or.inr h
  have hS : va_S A s.heap s.heap [] := va_S.rf
  have hP : va_P (dC, dI) classes (wX a k (nI wn) (nI mn) (nI T.1) fk fa sl ks ct sm le gr) s.heap := hP
  have hl := lv_entry ([.ref (a 0), .int nn]) (n := 2) (Nat.le_of_ble_eq_true rfl)
  rw [lg_entry_eq]
  generalize (lg_sl ([.ref (a 0), .int nn]) ++ List.replicate (2 - (lg_sl ([.ref (a 0), .int nn])).length) Slot.unset).toArray = ls at hl ⊢
  have hl : lv_has ls 2 [(0, .ref (a 0)), (1, .int nn)] := hl
  refine lv_iload_n hx hb dX_add_0 rfl (lv_at hl 1 rfl) ?_
  refine lv_iconst (v := 1) hx hb dX_add_1 (by decide) ?_
  refine lv_icmp_lt (tgt := 11) hx hb dX_add_2 (by decide) (fun h1 => ?_) (fun h1 => ?_)
  · skip
    exact gx_throw (is := 75) (text := "n is not 1 .. 100000") hx hb hnt hown hta hT hS (hl.1.trans hml.symm) (by decide) dX_add_11 dX_add_14 dX_add_15 dX_add_17 dX_add_20 hno (Nat.le_of_ble_eq_true rfl) (Nat.le_of_ble_eq_true rfl) (Nat.le_of_ble_eq_true rfl) (Nat.le_of_ble_eq_true rfl) hlocks (fun t9 hv9 hz9 hk9 => ⟨(), fun q => absurd q.1 (Int32.not_le.mpr h1), ⟨rfl, gx_P hP hk9, va_K.moved hv9 hK, hD⟩, gx_F hS hz9 hk9⟩) hS.2.2 (Nat.le_of_ble_eq_true rfl) (Nat.le_of_ble_eq_true rfl)
  · skip
    refine lv_iload_n hx hb dX_add_5 rfl (lv_at hl 1 rfl) ?_
    refine lv_ldc (v := 100000) hx hb hown (hta _ w190) dX_add_6 ?_
    refine lv_icmp_le (tgt := 21) hx hb dX_add_8 (by decide) (fun h2 => ?_) (fun h2 => ?_)
    · skip
      refine lv_aload_n hx hb dX_add_21 rfl (lv_at hl 0 rfl) ?_
      refine lv_iload_n hx hb dX_add_22 rfl (lv_at hl 1 rfl) ?_
      have hPc := hP
      have hDc := hD
      have hKc := hK
      have hFc := va_free (wc := (wX a k (nI wn) (nI mn) (nI T.1) fk fa sl ks ct sm le gr)) hD hS hA [0, 1, 2, 3, 4, 5, 6, 7, 8] rfl
      refine va_calli (va_runV (As := [.int nn]) (rest := []) ⟨hx, hb, hml, hown, hta⟩ (c_takeFact l dC dI a k wn mn fk fa T σ sl ks ct sm le gr hσ hrep nn s.heap.size) (cwV 1 hta (gV w192 w194 sX_takeFact w1 w195) rfl rfl rfl (by decide +kernel) ⟨Nat.le_of_ble_eq_true rfl, Nat.le_of_ble_eq_true rfl⟩) ⟨gb_W, va_recv hKc hPc (ci := 0) (q0 := 0) rfl rfl, fun U hU hW => ⟨rfl, by rw [hU], by rw [hU]; exact hPc, va_K.moved hW.alike hKc, hDc.weaken (fun _ _ _ _ => trivial)⟩⟩ rfl rfl hl.1 rfl (lv_room (Nat.le_of_ble_eq_true rfl)) dX_add_23 ⟨Nat.le_of_ble_eq_true rfl, Nat.le_of_ble_eq_true rfl⟩) hS (fun q _ h => hFc q h) hFc (fun r_9 u t H1 locs ht hvm hw hB hz1 hk1 hS => ?_)
      obtain ⟨σ1, sl1, ks1, ct1, sm1, le1, gr1, ⟨hσ1, hr1⟩, hP1, hK1, hD1⟩ := hB
      rw [ht] at hP1
      obtain ⟨hP, hD⟩ := va_join (wr := []) (w1 := (wX a k (nI wn) (nI mn) (nI (takeT wn fk fa nn.toInt64 T).1.1) fk fa sl1 ks1 ct1 sm1 le1 gr1)) hP hD [0, 1, 2, 3, 4, 5, 6, 7, 8] [] rfl rfl (by decide) (by decide) hk1 hFc hP1 hD1
      generalize H1 = H at hP hS ⊢
      have hP : va_P (dC, dI) classes (wX a k (nI wn) (nI mn) (nI (takeT wn fk fa nn.toInt64 T).1.1) fk fa sl1 ks1 ct1 sm1 le1 gr1) H := hP
      have hD : va_D A (wX a k (nI wn) (nI mn) (nI (takeT wn fk fa nn.toInt64 T).1.1) fk fa sl1 ks1 ct1 sm1 le1 gr1) := hD
      refine lv_if_eq (tgt := 36) hx hb dX_add_26 (by decide) (fun h3 => ?_) (fun h3 => ?_)
      · skip
        rw [hw] at h3
        have hb9 : ¬ (takeT wn fk fa nn.toInt64 T).2 = true := fun q => by rw [if_pos q] at h3; exact absurd h3 (by decide)
        refine lv_bipush (v := (-2)) hx hb dX_add_36 (by decide) ?_
        refine vx_ret ?_
        refine W.widen (k := 1) (n := 6) (Nat.zero_le _) (Nat.zero_le _) ?_
        exact W.iret (v := (-2)) hx hb hr (fun t9 ht9 hW9 => ⟨⟨(-2), (), rfl, ⟨⟨Int32.not_lt.mp h1, h2⟩, (if_neg hb9).symm⟩, ⟨σ1, sl1, ks1, ct1, sm1, le1, gr1, ⟨hσ1, hr1⟩, by rw [ht9]; exact hP, va_K.moved hW9.alike hK, hD⟩⟩, hS.F ht9⟩) hS.2.2 dX_add_38
      · skip
        rw [hw] at h3
        have hb9 : (takeT wn fk fa nn.toInt64 T).2 = true := by
          by_cases q : (takeT wn fk fa nn.toInt64 T).2 = true
          · exact q
          · rw [if_neg q] at h3; exact absurd rfl h3
        refine lv_aload_n hx hb dX_add_29 rfl (lv_at hl 0 rfl) ?_
        refine va_get (D := (dC, dI)) (ci := 0) (v := .int (nI (takeT wn fk fa nn.toInt64 T).1.1)) (C := "GroupRows") (T := FX) (N := 11) hx hb hta inX hown hK hP 0 rfl rfl 2 (by decide) (hta _ w21) (fun _ h9 => h9) rfl dX_add_30 ?_
        refine lv_goto (tgt := 38) hx hb dX_add_33 (by decide) ?_
        refine vx_ret ?_
        refine W.widen (k := 1) (n := 6) (Nat.zero_le _) (Nat.zero_le _) ?_
        exact W.iret (v := (nI (takeT wn fk fa nn.toInt64 T).1.1)) hx hb hr (fun t9 ht9 hW9 => ⟨⟨(nI (takeT wn fk fa nn.toInt64 T).1.1), (), rfl, ⟨⟨Int32.not_lt.mp h1, h2⟩, (if_pos hb9).symm⟩, ⟨σ1, sl1, ks1, ct1, sm1, le1, gr1, ⟨hσ1, hr1⟩, by rw [ht9]; exact hP, va_K.moved hW9.alike hK, hD⟩⟩, hS.F ht9⟩) hS.2.2 dX_add_38
    · skip
      exact gx_throw (is := 75) (text := "n is not 1 .. 100000") hx hb hnt hown hta hT hS (hl.1.trans hml.symm) (by decide) dX_add_11 dX_add_14 dX_add_15 dX_add_17 dX_add_20 hno (Nat.le_of_ble_eq_true rfl) (Nat.le_of_ble_eq_true rfl) (Nat.le_of_ble_eq_true rfl) (Nat.le_of_ble_eq_true rfl) hlocks (fun t9 hv9 hz9 hk9 => ⟨(), fun q => h2 q.2, ⟨rfl, gx_P hP hk9, va_K.moved hv9 hK, hD⟩, gx_F hS hz9 hk9⟩) hS.2.2 (Nat.le_of_ble_eq_true rfl) (Nat.le_of_ble_eq_true rfl)
set_option maxHeartbeats 4000000 in
set_option maxRecDepth 100000 in
theorem c_rows (l : Launch) (dC : Nat → ClassId) (dI : Nat → Nat → Nat) (a : Nat → Nat) (k : Nat → ClassId) (w ms n : Int32) (fk : Nat → Int32) (fa : Nat → Int64) (sl ks : Nat → Int32) (ct sm le gr : Nat → Int64) : Met l yX_rows (Cond.code yX_rows bX_rows 1 (some .int) :: wAll) rm0 (va_Pc [.ref (a 0)] (fun U => va_P (dC, dI) classes (wX a k w ms n fk fa sl ks ct sm le gr) U.heap ∧ va_K (dC, dI) classes (kX k) U)) (QcV (.int n)) 0 0 (fun _ => False) := by
  refine Met.ofW (cc := bX_rows) (maxL := 1) (ret := (some .int)) (by decide) rfl ?_
  intro p e s m args below meth c s₁ B hml hv
  obtain ⟨rfl, hP, hK⟩ := hv
  have hx := B.exec
  have hb := B.bytes
  have hr := B.returns
  have hta : ∀ w ∈ wAll, w.before ([.ref (a 0)] : List Value).toArray s = true := fun w h => atoms_spec (ws := (Cond.code yX_rows bX_rows 1 (some .int) :: wAll)) B.pre w (List.mem_cons_of_mem _ h)
  have hown : s.vm.findClass "GroupRows" = some m.cls := findClass_of_methodNamed B.named
  have hlocks := B.notSynchronized
  have hP : va_P (dC, dI) classes (wX a k w ms n fk fa sl ks ct sm le gr) s.heap := hP
  have hl := lv_entry ([.ref (a 0)]) (n := 1) (Nat.le_of_ble_eq_true rfl)
  rw [lg_entry_eq]
  generalize (lg_sl ([.ref (a 0)]) ++ List.replicate (1 - (lg_sl ([.ref (a 0)])).length) Slot.unset).toArray = ls at hl ⊢
  have hl : lv_has ls 1 [(0, .ref (a 0))] := hl
  refine lv_aload_n hx hb dX_rows_0 rfl (lv_at hl 0 rfl) ?_
  refine va_get (D := (dC, dI)) (ci := 0) (v := .int n) (C := "GroupRows") (T := FX) (N := 11) hx hb hta inX hown hK hP 0 rfl rfl 2 (by decide) (hta _ w21) (fun _ h9 => h9) rfl dX_rows_1 ?_
  exact W.iret hx hb hr (fun t9 ht9 hW9 => ⟨congrArg (fun z => Outcome.returned (some (Value.int z))) (rfl), ht9⟩) (fun _ h => by cases h) dX_rows_4
set_option maxHeartbeats 4000000 in
set_option maxRecDepth 100000 in
theorem c_find (l : Launch) (dC : Nat → ClassId) (dI : Nat → Nat → Nat) (a : Nat → Nat) (k : Nat → ClassId) (wn mn : Nat) (fk : Nat → Int32) (fa : Nat → Int64) (T : TB) (σ : Nat → Nat) (sl ks : Nat → Int32) (ct sm le gr : Nat → Int64) (hσ : perm σ sl) (hrep : repT σ wn mn T ks ct sm le gr) : Met l yX_find (Cond.code yX_find bX_find 2 (some .int) :: wAll) { frames := 3, cells := 0, slots := 0, locals := 128 } (va_Pc [.ref (a 0)] (fun U => va_P (dC, dI) classes (wX a k (nI wn) (nI mn) (nI T.1) fk fa sl ks ct sm le gr) U.heap ∧ va_K (dC, dI) classes (kX k) U)) (QcV (.int (if lowP wn T.1 T.2.1 fk < T.1 ∧ lx (T.2.1 (lowP wn T.1 T.2.1 fk)) fk wn 0 = 0 then nI (lowP wn T.1 T.2.1 fk) else (-1)))) 0 0 (fun _ => False) := by
  refine Met.ofW (cc := bX_find) (maxL := 2) (ret := (some .int)) (by decide) rfl ?_
  intro p e s m args below meth c s₁ B hml hv
  obtain ⟨rfl, hP, hK⟩ := hv
  have hx := B.exec
  have hb := B.bytes
  have hr := B.returns
  have hta : ∀ w ∈ wAll, w.before ([.ref (a 0)] : List Value).toArray s = true := fun w h => atoms_spec (ws := (Cond.code yX_find bX_find 2 (some .int) :: wAll)) B.pre w (List.mem_cons_of_mem _ h)
  have hown : s.vm.findClass "GroupRows" = some m.cls := findClass_of_methodNamed B.named
  have hlocks := B.notSynchronized
  have hP : va_P (dC, dI) classes (wX a k (nI wn) (nI mn) (nI T.1) fk fa sl ks ct sm le gr) s.heap := hP
  have hl := lv_entry ([.ref (a 0)]) (n := 2) (Nat.le_of_ble_eq_true rfl)
  rw [lg_entry_eq]
  generalize (lg_sl ([.ref (a 0)]) ++ List.replicate (2 - (lg_sl ([.ref (a 0)])).length) Slot.unset).toArray = ls at hl ⊢
  have hl : lv_has ls 2 [(0, .ref (a 0))] := hl
  obtain ⟨⟨hwn, hmn1, hmn, hn⟩, -⟩ := id hrep
  have hlow := rep_low (fk := fk) hrep
  obtain ⟨ps, eps⟩ : ∃ ps, ps = lowP wn T.1 T.2.1 fk := ⟨_, rfl⟩
  rw [← eps] at hlow
  have hps := hlow.1
  refine lv_aload_n hx hb dX_find_0 rfl (lv_at hl 0 rfl) ?_
  refine lv_aload_n hx hb dX_find_1 rfl (lv_at hl 0 rfl) ?_
  refine va_get (D := (dC, dI)) (ci := 0) (v := .ref (a 1)) (C := "GroupRows") (T := FX) (N := 11) hx hb hta inX hown hK hP 0 rfl rfl 3 (by decide) (hta _ w22) (fun _ h9 => h9) rfl dX_find_2 ?_
  refine lv_iconst (v := 0) hx hb dX_find_5 (by decide) ?_
  refine gi_as (y := nI 0) (nI_0.symm) ?_
  refine lv_aload_n hx hb dX_find_6 rfl (lv_at hl 0 rfl) ?_
  refine va_get (D := (dC, dI)) (ci := 0) (v := .int (nI T.1)) (C := "GroupRows") (T := FX) (N := 11) hx hb hta inX hown hK hP 0 rfl rfl 2 (by decide) (hta _ w21) (fun _ h9 => h9) rfl dX_find_7 ?_
  refine gi_callR (v := .int (nI ps)) (W.runV (As := [.ref (a 1), .int (nI 0), .int (nI T.1)]) (rest := []) ⟨hx, hb, hml, hown, hta⟩ (c_lowerPlaceF l dC dI a k wn (nI mn) (nI T.1) fk fa sl ks ct sm le gr σ 0 T.1 ps hwn hσ (by omega) hn hlow) (cwV 3 hta (gV w63 w65 sX_lowerPlace w1 w66) rfl rfl rfl (by decide +kernel) ⟨Nat.le_of_ble_eq_true rfl, Nat.le_of_ble_eq_true rfl⟩) ⟨gb_R, va_recv hK hP (ci := 0) (q0 := 0) rfl rfl, fun U hU hW => ⟨rfl, by rw [hU]; exact hP, va_K.moved hW.alike hK⟩⟩ rfl rfl hl.1 rfl (lv_room (Nat.le_of_ble_eq_true rfl)) dX_find_10 ⟨Nat.le_of_ble_eq_true rfl, Nat.le_of_ble_eq_true rfl⟩) ?_
  refine lv_istore_n (lv' := [(1, .int (nI ps)), (0, .ref (a 0))]) hx hb dX_find_13 rfl hl (by decide) rfl (fun ls hl => ?_)
  refine lv_aload_n hx hb dX_find_14 rfl (lv_at hl 1 rfl) ?_
  refine lv_iload_n hx hb dX_find_15 rfl (lv_at hl 0 rfl) ?_
  refine lv_aload_n hx hb dX_find_16 rfl (lv_at hl 1 rfl) ?_
  refine va_get (D := (dC, dI)) (ci := 0) (v := .ref (a 1)) (C := "GroupRows") (T := FX) (N := 11) hx hb hta inX hown hK hP 0 rfl rfl 3 (by decide) (hta _ w22) (fun _ h9 => h9) rfl dX_find_17 ?_
  refine lv_iconst (v := 0) hx hb dX_find_20 (by decide) ?_
  refine gi_as (y := nI 0) (nI_0.symm) ?_
  refine lv_aload_n hx hb dX_find_21 rfl (lv_at hl 1 rfl) ?_
  refine va_get (D := (dC, dI)) (ci := 0) (v := .int (nI T.1)) (C := "GroupRows") (T := FX) (N := 11) hx hb hta inX hown hK hP 0 rfl rfl 2 (by decide) (hta _ w21) (fun _ h9 => h9) rfl dX_find_22 ?_
  refine gi_callR (v := .int (if ps < T.1 ∧ lx (fun i => ks (8 * σ ps + i)) (fun i => fk (0 + i)) wn 0 = 0 then 1 else 0)) (W.runV (As := [.int (nI ps), .ref (a 1), .int (nI 0), .int (nI T.1)]) (rest := []) ⟨hx, hb, hml, hown, hta⟩ (c_isKeyAtF l dC dI a k wn (nI mn) (nI T.1) fk fa sl ks ct sm le gr σ ps 0 T.1 hwn hσ (by omega) (by omega) hn) (cwV 4 hta (gV w74 w76 sX_isKeyAt w1 w77) rfl rfl rfl (by decide +kernel) ⟨Nat.le_of_ble_eq_true rfl, Nat.le_of_ble_eq_true rfl⟩) ⟨gb_R, va_recv hK hP (ci := 0) (q0 := 0) rfl rfl, fun U hU hW => ⟨rfl, by rw [hU]; exact hP, va_K.moved hW.alike hK⟩⟩ rfl rfl hl.1 rfl (lv_room (Nat.le_of_ble_eq_true rfl)) dX_find_25 ⟨Nat.le_of_ble_eq_true rfl, Nat.le_of_ble_eq_true rfl⟩) ?_
  refine lv_if_eq (tgt := 35) hx hb dX_find_28 (by decide) (fun h1 => ?_) (fun h1 => ?_)
  · skip
    have hc : ¬ (lowP wn T.1 T.2.1 fk < T.1 ∧ lx (T.2.1 (lowP wn T.1 T.2.1 fk)) fk wn 0 = 0) := fun q => by rw [← eps] at q; rw [if_pos ((rep_has hrep).mpr q)] at h1; exact absurd h1 (by decide)
    refine lv_iconst (v := (-1)) hx hb dX_find_35 (by decide) ?_
    exact W.iret hx hb hr (fun t9 ht9 hW9 => ⟨congrArg (fun z => Outcome.returned (some (Value.int z))) ((if_neg hc).symm), ht9⟩) (fun _ h => by cases h) dX_find_36
  · skip
    have hc : lowP wn T.1 T.2.1 fk < T.1 ∧ lx (T.2.1 (lowP wn T.1 T.2.1 fk)) fk wn 0 = 0 := by
      by_cases q : ps < T.1 ∧ lx (fun i => ks (8 * σ ps + i)) (fun i => fk (0 + i)) wn 0 = 0
      · have := (rep_has hrep).mp q
        rw [eps] at this; exact this
      · rw [if_neg q] at h1; exact absurd rfl h1
    refine lv_iload_n hx hb dX_find_31 rfl (lv_at hl 0 rfl) ?_
    refine lv_goto (tgt := 36) hx hb dX_find_32 (by decide) ?_
    exact W.iret hx hb hr (fun t9 ht9 hW9 => ⟨congrArg (fun z => Outcome.returned (some (Value.int z))) (by rw [if_pos hc, eps]), ht9⟩) (fun _ h => by cases h) dX_find_36
