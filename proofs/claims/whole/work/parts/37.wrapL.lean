/-- the class stands for a table, the law's own cell beside it -/
abbrev atXO (dC : Nat → ClassId) (dI : Nat → Nat → Nat) (A : Nat → Prop) (a : Nat → Nat) (k : Nat → ClassId) (a9 : Nat) (k9 : ClassId) (wn mn : Nat) (fk : Nat → Int32) (fa : Nat → Int64) (T : TB) (ov : Nat → Int64) (t : State) : Prop :=
  ∃ (σ : Nat → Nat) (sl ks : Nat → Int32) (ct sm le gr : Nat → Int64), (perm σ sl ∧ repT σ wn mn T ks ct sm le gr) ∧ va_P (dC, dI) classes (wX a k (nI wn) (nI mn) (nI T.1) fk fa sl ks ct sm le gr ++ [(a9, .inl (k9, 1, .inr (.inl ov)))]) t.heap ∧ va_K (dC, dI) classes (kX k ++ [(k9, .long)]) t ∧ va_D A (wX a k (nI wn) (nI mn) (nI T.1) fk fa sl ks ct sm le gr ++ [(a9, .inl (k9, 1, .inr (.inl ov)))])
set_option maxHeartbeats 4000000 in
set_option maxRecDepth 100000 in
/-- the law's begin -/
theorem c_Lbegin (l : Launch) (hnt : l.stackTraces = false) (dC : Nat → ClassId) (dI : Nat → Nat → Nat) (a : Nat → Nat) (k : Nat → ClassId) (wn mn : Nat) (fk : Nat → Int32) (fa : Nat → Int64) (T : TB) (σ : Nat → Nat) (sl ks : Nat → Int32) (ct sm le gr : Nat → Int64) (hσ : perm σ sl) (hrep : repT σ wn mn T ks ct sm le gr) (w0 m0 : Int32) (sz : Nat) : Met l yL_begin (Cond.codeWith yL_begin bL_begin 4 (some .int) [(0, 6, 9, 13)] :: wAll) { frames := 7, cells := 1, slots := 6, locals := 192 } (va_Pc [.ref (a 0), .int w0, .int m0] (fun U => U.heap.size = sz ∧ va_P (dC, dI) classes (wX a k (nI wn) (nI mn) (nI T.1) fk fa sl ks ct sm le gr) U.heap ∧ va_K (dC, dI) classes (kX k) U ∧ va_D (fun _ => True) (wX a k (nI wn) (nI mn) (nI T.1) fk fa sl ks ct sm le gr) ∧ thrE (va_A (wX a k (nI wn) (nI mn) (nI T.1) fk fa sl ks ct sm le gr) sz) U U.heap)) (va_Qi (fun (r9 : Int32) (_ : Unit) => r9 = if (0 ≤ w0 ∧ w0 ≤ 8) ∧ 1 ≤ m0 ∧ m0 ≤ 8 then 0 else 1) (fun (_ : Unit) (t9 : State) => (((0 ≤ w0 ∧ w0 ≤ 8) ∧ 1 ≤ m0 ∧ m0 ≤ 8) → atX dC dI (va_A (wX a k (nI wn) (nI mn) (nI T.1) fk fa sl ks ct sm le gr) sz) a k w0.toNatClampNeg m0.toNatClampNeg (upToI (fun _ _ => 0) 0 fk 8) (upTo (fun _ _ => 0) 0 fa 8) (0, T.2) t9) ∧ (¬ ((0 ≤ w0 ∧ w0 ≤ 8) ∧ 1 ≤ m0 ∧ m0 ≤ 8) → atX dC dI (va_A (wX a k (nI wn) (nI mn) (nI T.1) fk fa sl ks ct sm le gr) sz) a k wn mn fk fa T t9)) (va_A (wX a k (nI wn) (nI mn) (nI T.1) fk fa sl ks ct sm le gr) sz)) 1 6 (va_A (wX a k (nI wn) (nI mn) (nI T.1) fk fa sl ks ct sm le gr) sz) := by
  refine va_MetW (cc := bL_begin) (maxL := 4) (ret := (some .int)) (hh := [(0, 6, 9, 13)]) (by decide) rfl ?_
  intro p e s m args below meth c s₁ B hml hv
  obtain ⟨rfl, hsz, hP, hK, hD0, hT⟩ := hv
  have hx := B.exec
  have hb := B.bytes
  have hr := B.returns
  have hta : ∀ w ∈ wAll, w.before ([.ref (a 0), .int w0, .int m0] : List Value).toArray s = true := fun w h => atoms_spec (ws := (Cond.codeWith yL_begin bL_begin 4 (some .int) [(0, 6, 9, 13)] :: wAll)) B.pre w (List.mem_cons_of_mem _ h)
  have hown : s.vm.findClass "GroupRowsLaw" = some m.cls := findClass_of_methodNamed B.named
  have hlocks := B.notSynchronized
  subst hsz
  have hD := hD0.self (sz := s.heap.size)
  generalize hAe : va_A (wX a k (nI wn) (nI mn) (nI T.1) fk fa sl ks ct sm le gr) s.heap.size = A at hD hT ⊢
  have hA : ∀ q : Nat, s.heap.size ≤ q → A q := fun q h => by rw [← hAe]; exact Or.inr h
  have hS : va_S A s.heap s.heap [] := va_S.rf
  have hP : va_P (dC, dI) classes (wX a k (nI wn) (nI mn) (nI T.1) fk fa sl ks ct sm le gr) s.heap := hP
  have hl := lv_entry ([.ref (a 0), .int w0, .int m0]) (n := 4) (Nat.le_of_ble_eq_true rfl)
  rw [lg_entry_eq]
  generalize (lg_sl ([.ref (a 0), .int w0, .int m0]) ++ List.replicate (4 - (lg_sl ([.ref (a 0), .int w0, .int m0])).length) Slot.unset).toArray = ls at hl ⊢
  have hl : lv_has ls 4 [(0, .ref (a 0)), (1, .int w0), (2, .int m0)] := hl
  have htab : c.exceptionTable.toList = tableOf [(0, 6, 9, 13)] := vx_table (x := yL_begin) B (atoms_spec (ws := (Cond.codeWith yL_begin bL_begin 4 (some .int) [(0, 6, 9, 13)] :: wAll)) B.pre _ List.mem_cons_self)
  refine lv_aload_n hx hb dL_begin_0 rfl (lv_at hl 0 rfl) ?_
  refine lv_iload_n hx hb dL_begin_1 rfl (lv_at hl 1 rfl) ?_
  refine lv_iload_n hx hb dL_begin_2 rfl (lv_at hl 2 rfl) ?_
  have hPc := hP
  have hDc := hD
  have hKc := hK
  have hFc := va_free (wc := (wX a k (nI wn) (nI mn) (nI T.1) fk fa sl ks ct sm le gr)) hD hS hA [0, 1, 2, 3, 4, 5, 6, 7, 8] rfl
  refine vx_callv (vx_runV (As := [.int w0, .int m0]) (rest := []) ⟨hx, hb, hml, hown, hta⟩ (c_begin l hnt dC dI a k wn mn fk fa T σ sl ks ct sm le gr hσ hrep w0 m0 s.heap.size) (cwV 2 hta (gV w82 w83 w84 w1 w85) rfl rfl rfl (by decide +kernel) ⟨Nat.le_of_ble_eq_true rfl, Nat.le_of_ble_eq_true rfl⟩) ⟨gb_X, va_recv hKc hPc (ci := 0) (q0 := 0) rfl rfl, fun U hU hW => ⟨rfl, by rw [hU], by rw [hU]; exact hPc, va_K.moved hW.alike hKc, hDc.weaken (fun _ _ _ _ => trivial), by rw [hU]; exact ((thrE.warm hW hT).kept hS.2.1).narrow hFc⟩⟩ rfl rfl hl.1 rfl (lv_room (Nat.le_of_ble_eq_true rfl)) dL_begin_3 ⟨Nat.le_of_ble_eq_true rfl, Nat.le_of_ble_eq_true rfl⟩) hS (fun q _ h => hFc q h) hFc (fun q _ h => hFc q h) (fun E9 ce q9 u t H1 locs ht hvm hpx hBX hz1 hk1 hS hce hcv hcl => ?_) (fun u t H1 locs ht hvm hw hB hz1 hk1 hS => ?_)
  · skip
    obtain ⟨hE, hP1, hK1, hD1⟩ := hBX
    subst hE
    rw [ht] at hP1
    obtain ⟨hP, hD⟩ := va_join (wr := []) (w1 := (wX a k (nI wn) (nI mn) (nI T.1) fk fa sl ks ct sm le gr)) hP hD [0, 1, 2, 3, 4, 5, 6, 7, 8] [] rfl rfl (by decide) (by decide) hk1 hFc hP1 hD1
    have hP : va_P (dC, dI) classes (wX a k (nI wn) (nI mn) (nI T.1) fk fa sl ks ct sm le gr) H1 := hP
    have hD : va_D A (wX a k (nI wn) (nI mn) (nI T.1) fk fa sl ks ct sm le gr) := hD
    refine vx_catch hown [] ⟨0, 6, 9, 13⟩ [] htab (fun z hz => nomatch hz) (by decide) (by decide) (hta _ w81) (va_Nw.use rfl hT.1.2.2.2) hce hcv hcl ?_
    refine W.cs (cells' := 1) (slots' := 6) rfl rfl ?_
    show W p l e _ s m _ below meth c H1 locs 1 6 _ (F0 m 9 ls [.ref q9])
    refine lv_astore_n (lv' := [(3, .ref q9), (0, .ref (a 0)), (1, .int w0), (2, .int m0)]) hx hb dL_begin_9 rfl hl (by decide) rfl (fun ls hl => ?_)
    refine lv_iconst (v := 1) hx hb dL_begin_10 (by decide) ?_
    exact W.iret (v := 1) hx hb hr (fun t9 ht9 hW9 => ⟨⟨1, (), rfl, (if_neg hpx).symm, ⟨fun h9 => absurd h9 hpx, fun _ => ⟨σ, sl, ks, ct, sm, le, gr, ⟨hσ, hrep⟩, by rw [ht9]; exact hP, va_K.moved hW9.alike hK, hD⟩⟩⟩, hS.F ht9⟩) hS.2.2 dL_begin_11
  · skip
    obtain ⟨hLg, hval⟩ := hw
    obtain ⟨σ1, sl1, ks1, ct1, sm1, le1, gr1, hσr1, hP1, hK1, hD1⟩ := hB
    rw [ht] at hP1
    obtain ⟨hP, hD⟩ := va_join (wr := []) (w1 := (wX a k (nI w0.toNatClampNeg) (nI m0.toNatClampNeg) (nI (0, T.2).1) (upToI (fun _ _ => 0) 0 fk 8) (upTo (fun _ _ => 0) 0 fa 8) sl1 ks1 ct1 sm1 le1 gr1)) hP hD [0, 1, 2, 3, 4, 5, 6, 7, 8] [] rfl rfl (by decide) (by decide) hk1 hFc hP1 hD1
    have hP : va_P (dC, dI) classes (wX a k (nI w0.toNatClampNeg) (nI m0.toNatClampNeg) (nI (0, T.2).1) (upToI (fun _ _ => 0) 0 fk 8) (upTo (fun _ _ => 0) 0 fa 8) sl1 ks1 ct1 sm1 le1 gr1) H1 := hP
    have hD : va_D A (wX a k (nI w0.toNatClampNeg) (nI m0.toNatClampNeg) (nI (0, T.2).1) (upToI (fun _ _ => 0) 0 fk 8) (upTo (fun _ _ => 0) 0 fa 8) sl1 ks1 ct1 sm1 le1 gr1) := hD
    refine W.cs (cells' := 1) (slots' := 6) rfl rfl ?_
    show W p l e _ s m _ below meth c H1 locs 1 6 _ (F0 m 6 ls [])
    refine lv_goto (tgt := 12) hx hb dL_begin_6 (by decide) ?_
    refine lv_iconst (v := 0) hx hb dL_begin_12 (by decide) ?_
    exact W.iret (v := 0) hx hb hr (fun t9 ht9 hW9 => ⟨⟨0, (), rfl, (if_pos hLg).symm, ⟨fun _ => ⟨σ1, sl1, ks1, ct1, sm1, le1, gr1, hσr1, by rw [ht9]; exact hP, va_K.moved hW9.alike hK, hD⟩, fun h9 => absurd hLg h9⟩⟩, hS.F ht9⟩) hS.2.2 dL_begin_13
set_option maxHeartbeats 4000000 in
set_option maxRecDepth 100000 in
/-- the law's key -/
theorem c_Lkey (l : Launch) (hnt : l.stackTraces = false) (dC : Nat → ClassId) (dI : Nat → Nat → Nat) (a : Nat → Nat) (k : Nat → ClassId) (wn mn : Nat) (fk : Nat → Int32) (fa : Nat → Int64) (T : TB) (σ : Nat → Nat) (sl ks : Nat → Int32) (ct sm le gr : Nat → Int64) (hσ : perm σ sl) (hrep : repT σ wn mn T ks ct sm le gr) (a9 : Nat) (k9 : ClassId) (ov : Nat → Int64) (i v : Int32) (sz : Nat) : Met l yL_key (Cond.codeWith yL_key bL_key 5 (some .int) [(0, 10, 13, 13)] :: wAll) { frames := 7, cells := 1, slots := 6, locals := 192 } (va_Pc [.ref (a 0), .int i, .int v, .ref a9] (fun U => U.heap.size = sz ∧ va_P (dC, dI) classes ((wX a k (nI wn) (nI mn) (nI T.1) fk fa sl ks ct sm le gr) ++ [(a9, .inl (k9, 1, .inr (.inl ov)))]) U.heap ∧ va_K (dC, dI) classes ((kX k) ++ [(k9, .long)]) U ∧ va_D (fun _ => True) ((wX a k (nI wn) (nI mn) (nI T.1) fk fa sl ks ct sm le gr) ++ [(a9, .inl (k9, 1, .inr (.inl ov)))]) ∧ thrE (va_A ((wX a k (nI wn) (nI mn) (nI T.1) fk fa sl ks ct sm le gr) ++ [(a9, .inl (k9, 1, .inr (.inl ov)))]) sz) U U.heap)) (va_Qi (fun (r9 : Int32) (_ : Unit) => r9 = if 0 ≤ i ∧ i < nI wn then 0 else 1) (fun (_ : Unit) (t9 : State) => ((0 ≤ i ∧ i < nI wn) → atXO dC dI (va_A ((wX a k (nI wn) (nI mn) (nI T.1) fk fa sl ks ct sm le gr) ++ [(a9, .inl (k9, 1, .inr (.inl ov)))]) sz) a k a9 k9 wn mn (upd fk i.toNatClampNeg v) fa T (vp_updL ov 0 (fk i.toNatClampNeg).toInt64) t9) ∧ (¬ (0 ≤ i ∧ i < nI wn) → atXO dC dI (va_A ((wX a k (nI wn) (nI mn) (nI T.1) fk fa sl ks ct sm le gr) ++ [(a9, .inl (k9, 1, .inr (.inl ov)))]) sz) a k a9 k9 wn mn fk fa T ov t9)) (va_A ((wX a k (nI wn) (nI mn) (nI T.1) fk fa sl ks ct sm le gr) ++ [(a9, .inl (k9, 1, .inr (.inl ov)))]) sz)) 1 6 (va_A ((wX a k (nI wn) (nI mn) (nI T.1) fk fa sl ks ct sm le gr) ++ [(a9, .inl (k9, 1, .inr (.inl ov)))]) sz) := by
  refine va_MetW (cc := bL_key) (maxL := 5) (ret := (some .int)) (hh := [(0, 10, 13, 13)]) (by decide) rfl ?_
  intro p e s m args below meth c s₁ B hml hv
  obtain ⟨rfl, hsz, hP, hK, hD0, hT⟩ := hv
  have hx := B.exec
  have hb := B.bytes
  have hr := B.returns
  have hta : ∀ w ∈ wAll, w.before ([.ref (a 0), .int i, .int v, .ref a9] : List Value).toArray s = true := fun w h => atoms_spec (ws := (Cond.codeWith yL_key bL_key 5 (some .int) [(0, 10, 13, 13)] :: wAll)) B.pre w (List.mem_cons_of_mem _ h)
  have hown : s.vm.findClass "GroupRowsLaw" = some m.cls := findClass_of_methodNamed B.named
  have hlocks := B.notSynchronized
  subst hsz
  have hD := hD0.self (sz := s.heap.size)
  generalize hAe : va_A ((wX a k (nI wn) (nI mn) (nI T.1) fk fa sl ks ct sm le gr) ++ [(a9, .inl (k9, 1, .inr (.inl ov)))]) s.heap.size = A at hD hT ⊢
  have hA : ∀ q : Nat, s.heap.size ≤ q → A q := fun q h => by rw [← hAe]; exact Or.inr h
  have hS : va_S A s.heap s.heap [] := va_S.rf
  have hP : va_P (dC, dI) classes ((wX a k (nI wn) (nI mn) (nI T.1) fk fa sl ks ct sm le gr) ++ [(a9, .inl (k9, 1, .inr (.inl ov)))]) s.heap := hP
  have hl := lv_entry ([.ref (a 0), .int i, .int v, .ref a9]) (n := 5) (Nat.le_of_ble_eq_true rfl)
  rw [lg_entry_eq]
  generalize (lg_sl ([.ref (a 0), .int i, .int v, .ref a9]) ++ List.replicate (5 - (lg_sl ([.ref (a 0), .int i, .int v, .ref a9])).length) Slot.unset).toArray = ls at hl ⊢
  have hl : lv_has ls 5 [(0, .ref (a 0)), (1, .int i), (2, .int v), (3, .ref a9)] := hl
  have htab : c.exceptionTable.toList = tableOf [(0, 10, 13, 13)] := vx_table (x := yL_key) B (atoms_spec (ws := (Cond.codeWith yL_key bL_key 5 (some .int) [(0, 10, 13, 13)] :: wAll)) B.pre _ List.mem_cons_self)
  refine lv_aload_n hx hb dL_key_0 rfl (lv_at hl 3 rfl) ?_
  refine lv_iconst (v := 0) hx hb dL_key_1 (by decide) ?_
  refine gi_as (y := nI 0) (nI_0.symm) ?_
  refine lv_aload_n hx hb dL_key_2 rfl (lv_at hl 0 rfl) ?_
  refine lv_iload_n hx hb dL_key_3 rfl (lv_at hl 1 rfl) ?_
  refine lv_iload_n hx hb dL_key_4 rfl (lv_at hl 2 rfl) ?_
  have hPc := hP.sub (ws' := (wX a k (nI wn) (nI mn) (nI T.1) fk fa sl ks ct sm le gr)) [0, 1, 2, 3, 4, 5, 6, 7, 8] rfl
  have hDc := hD.sub (ws' := (wX a k (nI wn) (nI mn) (nI T.1) fk fa sl ks ct sm le gr)) [0, 1, 2, 3, 4, 5, 6, 7, 8] (by decide) rfl
  have hKc := hK.sub (tys' := kX k) [0, 1, 2, 3, 4, 5, 6, 7] rfl
  have hFc := va_free (wc := (wX a k (nI wn) (nI mn) (nI T.1) fk fa sl ks ct sm le gr)) hD hS hA [0, 1, 2, 3, 4, 5, 6, 7, 8] rfl
  refine vx_calli (vx_runV (As := [.int i, .int v]) (rest := [.int (nI 0), .ref a9]) ⟨hx, hb, hml, hown, hta⟩ (c_key l hnt dC dI a k wn mn fk fa T σ sl ks ct sm le gr hσ hrep i v s.heap.size) (cwV 2 hta (gV w162 w163 w164 w1 w165) rfl rfl rfl (by decide +kernel) ⟨Nat.le_of_ble_eq_true rfl, Nat.le_of_ble_eq_true rfl⟩) ⟨gb_X, va_recv hKc hPc (ci := 0) (q0 := 0) rfl rfl, fun U hU hW => ⟨rfl, by rw [hU], by rw [hU]; exact hPc, va_K.moved hW.alike hKc, hDc.weaken (fun _ _ _ _ => trivial), by rw [hU]; exact ((thrE.warm hW hT).kept hS.2.1).narrow hFc⟩⟩ rfl rfl hl.1 rfl (lv_room (Nat.le_of_ble_eq_true rfl)) dL_key_5 ⟨Nat.le_of_ble_eq_true rfl, Nat.le_of_ble_eq_true rfl⟩) hS (fun q _ h => hFc q h) hFc (fun q _ h => hFc q h) (fun E9 ce q9 u t H1 locs ht hvm hpx hBX hz1 hk1 hS hce hcv hcl => ?_) (fun r_9 u t H1 locs ht hvm hw hB hz1 hk1 hS => ?_)
  · skip
    obtain ⟨hE, hP1, hK1, hD1⟩ := hBX
    subst hE
    rw [ht] at hP1
    obtain ⟨hP, hD⟩ := va_join (wr := [(a9, .inl (k9, 1, .inr (.inl ov)))]) (w1 := (wX a k (nI wn) (nI mn) (nI T.1) fk fa sl ks ct sm le gr)) hP hD [0, 1, 2, 3, 4, 5, 6, 7, 8] [9] rfl rfl (by decide) (by decide) hk1 hFc hP1 hD1
    have hP := hP.sub (ws' := ((wX a k (nI wn) (nI mn) (nI T.1) fk fa sl ks ct sm le gr) ++ [(a9, .inl (k9, 1, .inr (.inl ov)))])) [1, 2, 3, 4, 5, 6, 7, 8, 9, 0] rfl
    have hD := hD.sub (ws' := ((wX a k (nI wn) (nI mn) (nI T.1) fk fa sl ks ct sm le gr) ++ [(a9, .inl (k9, 1, .inr (.inl ov)))])) [1, 2, 3, 4, 5, 6, 7, 8, 9, 0] (by decide) rfl
    have hP : va_P (dC, dI) classes ((wX a k (nI wn) (nI mn) (nI T.1) fk fa sl ks ct sm le gr) ++ [(a9, .inl (k9, 1, .inr (.inl ov)))]) H1 := hP
    have hD : va_D A ((wX a k (nI wn) (nI mn) (nI T.1) fk fa sl ks ct sm le gr) ++ [(a9, .inl (k9, 1, .inr (.inl ov)))]) := hD
    refine vx_catch hown [] ⟨0, 10, 13, 13⟩ [] htab (fun z hz => nomatch hz) (by decide) (by decide) (hta _ w81) (va_Nw.use rfl hT.1.2.2.2) hce hcv hcl ?_
    refine W.cs (cells' := 1) (slots' := 6) rfl rfl ?_
    show W p l e _ s m _ below meth c H1 locs 1 6 _ (F0 m 13 ls [.ref q9])
    refine lv_astore (lv' := [(4, .ref q9), (0, .ref (a 0)), (1, .int i), (2, .int v), (3, .ref a9)]) hx hb dL_key_13 hl (by decide) rfl (fun ls hl => ?_)
    refine lv_iconst (v := 1) hx hb dL_key_15 (by decide) ?_
    exact W.iret (v := 1) hx hb hr (fun t9 ht9 hW9 => ⟨⟨1, (), rfl, (if_neg hpx).symm, ⟨fun h9 => absurd h9 hpx, fun _ => ⟨σ, sl, ks, ct, sm, le, gr, ⟨hσ, hrep⟩, by rw [ht9]; exact hP, va_K.moved hW9.alike hK, hD⟩⟩⟩, hS.F ht9⟩) hS.2.2 dL_key_16
  · skip
    obtain ⟨hLg, hval⟩ := hw
    obtain ⟨σ1, sl1, ks1, ct1, sm1, le1, gr1, hσr1, hP1, hK1, hD1⟩ := hB
    rw [ht] at hP1
    obtain ⟨hP, hD⟩ := va_join (wr := [(a9, .inl (k9, 1, .inr (.inl ov)))]) (w1 := (wX a k (nI wn) (nI mn) (nI T.1) (upd fk i.toNatClampNeg v) fa sl1 ks1 ct1 sm1 le1 gr1)) hP hD [0, 1, 2, 3, 4, 5, 6, 7, 8] [9] rfl rfl (by decide) (by decide) hk1 hFc hP1 hD1
    have hP := hP.sub (ws' := ((wX a k (nI wn) (nI mn) (nI T.1) (upd fk i.toNatClampNeg v) fa sl1 ks1 ct1 sm1 le1 gr1) ++ [(a9, .inl (k9, 1, .inr (.inl ov)))])) [1, 2, 3, 4, 5, 6, 7, 8, 9, 0] rfl
    have hD := hD.sub (ws' := ((wX a k (nI wn) (nI mn) (nI T.1) (upd fk i.toNatClampNeg v) fa sl1 ks1 ct1 sm1 le1 gr1) ++ [(a9, .inl (k9, 1, .inr (.inl ov)))])) [1, 2, 3, 4, 5, 6, 7, 8, 9, 0] (by decide) rfl
    have hP : va_P (dC, dI) classes ((wX a k (nI wn) (nI mn) (nI T.1) (upd fk i.toNatClampNeg v) fa sl1 ks1 ct1 sm1 le1 gr1) ++ [(a9, .inl (k9, 1, .inr (.inl ov)))]) H1 := hP
    have hD : va_D A ((wX a k (nI wn) (nI mn) (nI T.1) (upd fk i.toNatClampNeg v) fa sl1 ks1 ct1 sm1 le1 gr1) ++ [(a9, .inl (k9, 1, .inr (.inl ov)))]) := hD
    refine W.cs (cells' := 1) (slots' := 6) rfl rfl ?_
    subst hval
    show W p l e _ s m _ below meth c H1 locs 1 6 _ (F0 m 8 ls [.int (fk i.toNatClampNeg), .int (nI 0), .ref a9])
    refine lv_i2l (v := (fk i.toNatClampNeg).toInt64) hx hb dL_key_8 rfl ?_
    refine gi_last hx hb hK hP hD hS 9 8 rfl rfl (k := 0) (by omega) (by decide) dL_key_9 (fun H locs hP hD hS => ?_)
    have hP : va_P (dC, dI) classes ((wX a k (nI wn) (nI mn) (nI T.1) (upd fk i.toNatClampNeg v) fa sl1 ks1 ct1 sm1 le1 gr1) ++ [(a9, .inl (k9, 1, .inr (.inl (vp_updL ov 0 ((fk i.toNatClampNeg).toInt64)))))]) H := hP
    have hD : va_D A ((wX a k (nI wn) (nI mn) (nI T.1) (upd fk i.toNatClampNeg v) fa sl1 ks1 ct1 sm1 le1 gr1) ++ [(a9, .inl (k9, 1, .inr (.inl (vp_updL ov 0 ((fk i.toNatClampNeg).toInt64)))))]) := hD
    refine lv_goto (tgt := 17) hx hb dL_key_10 (by decide) ?_
    refine lv_iconst (v := 0) hx hb dL_key_17 (by decide) ?_
    exact W.iret (v := 0) hx hb hr (fun t9 ht9 hW9 => ⟨⟨0, (), rfl, (if_pos hLg).symm, ⟨fun _ => ⟨σ1, sl1, ks1, ct1, sm1, le1, gr1, hσr1, by rw [ht9]; exact hP, va_K.moved hW9.alike hK, hD⟩, fun h9 => absurd hLg h9⟩⟩, hS.F ht9⟩) hS.2.2 dL_key_18
set_option maxHeartbeats 4000000 in
set_option maxRecDepth 100000 in
/-- the law's amount -/
theorem c_Lamount (l : Launch) (hnt : l.stackTraces = false) (dC : Nat → ClassId) (dI : Nat → Nat → Nat) (a : Nat → Nat) (k : Nat → ClassId) (wn mn : Nat) (fk : Nat → Int32) (fa : Nat → Int64) (T : TB) (σ : Nat → Nat) (sl ks : Nat → Int32) (ct sm le gr : Nat → Int64) (hσ : perm σ sl) (hrep : repT σ wn mn T ks ct sm le gr) (a9 : Nat) (k9 : ClassId) (ov : Nat → Int64) (m0 : Int32) (v : Int64) (sz : Nat) : Met l yL_amount (Cond.codeWith yL_amount bL_amount 6 (some .int) [(0, 10, 13, 13)] :: wAll) { frames := 7, cells := 1, slots := 6, locals := 192 } (va_Pc [.ref (a 0), .int m0, .long v, .ref a9] (fun U => U.heap.size = sz ∧ va_P (dC, dI) classes ((wX a k (nI wn) (nI mn) (nI T.1) fk fa sl ks ct sm le gr) ++ [(a9, .inl (k9, 1, .inr (.inl ov)))]) U.heap ∧ va_K (dC, dI) classes ((kX k) ++ [(k9, .long)]) U ∧ va_D (fun _ => True) ((wX a k (nI wn) (nI mn) (nI T.1) fk fa sl ks ct sm le gr) ++ [(a9, .inl (k9, 1, .inr (.inl ov)))]) ∧ thrE (va_A ((wX a k (nI wn) (nI mn) (nI T.1) fk fa sl ks ct sm le gr) ++ [(a9, .inl (k9, 1, .inr (.inl ov)))]) sz) U U.heap)) (va_Qi (fun (r9 : Int32) (_ : Unit) => r9 = if 0 ≤ m0 ∧ m0 < nI mn then 0 else 1) (fun (_ : Unit) (t9 : State) => ((0 ≤ m0 ∧ m0 < nI mn) → atXO dC dI (va_A ((wX a k (nI wn) (nI mn) (nI T.1) fk fa sl ks ct sm le gr) ++ [(a9, .inl (k9, 1, .inr (.inl ov)))]) sz) a k a9 k9 wn mn fk (vp_updL fa m0.toNatClampNeg v) T (vp_updL ov 0 (fa m0.toNatClampNeg)) t9) ∧ (¬ (0 ≤ m0 ∧ m0 < nI mn) → atXO dC dI (va_A ((wX a k (nI wn) (nI mn) (nI T.1) fk fa sl ks ct sm le gr) ++ [(a9, .inl (k9, 1, .inr (.inl ov)))]) sz) a k a9 k9 wn mn fk fa T ov t9)) (va_A ((wX a k (nI wn) (nI mn) (nI T.1) fk fa sl ks ct sm le gr) ++ [(a9, .inl (k9, 1, .inr (.inl ov)))]) sz)) 1 6 (va_A ((wX a k (nI wn) (nI mn) (nI T.1) fk fa sl ks ct sm le gr) ++ [(a9, .inl (k9, 1, .inr (.inl ov)))]) sz) := by
  refine va_MetW (cc := bL_amount) (maxL := 6) (ret := (some .int)) (hh := [(0, 10, 13, 13)]) (by decide) rfl ?_
  intro p e s m args below meth c s₁ B hml hv
  obtain ⟨rfl, hsz, hP, hK, hD0, hT⟩ := hv
  have hx := B.exec
  have hb := B.bytes
  have hr := B.returns
  have hta : ∀ w ∈ wAll, w.before ([.ref (a 0), .int m0, .long v, .ref a9] : List Value).toArray s = true := fun w h => atoms_spec (ws := (Cond.codeWith yL_amount bL_amount 6 (some .int) [(0, 10, 13, 13)] :: wAll)) B.pre w (List.mem_cons_of_mem _ h)
  have hown : s.vm.findClass "GroupRowsLaw" = some m.cls := findClass_of_methodNamed B.named
  have hlocks := B.notSynchronized
  subst hsz
  have hD := hD0.self (sz := s.heap.size)
  generalize hAe : va_A ((wX a k (nI wn) (nI mn) (nI T.1) fk fa sl ks ct sm le gr) ++ [(a9, .inl (k9, 1, .inr (.inl ov)))]) s.heap.size = A at hD hT ⊢
  have hA : ∀ q : Nat, s.heap.size ≤ q → A q := fun q h => by rw [← hAe]; exact Or.inr h
  have hS : va_S A s.heap s.heap [] := va_S.rf
  have hP : va_P (dC, dI) classes ((wX a k (nI wn) (nI mn) (nI T.1) fk fa sl ks ct sm le gr) ++ [(a9, .inl (k9, 1, .inr (.inl ov)))]) s.heap := hP
  have hl := lv_entry ([.ref (a 0), .int m0, .long v, .ref a9]) (n := 6) (Nat.le_of_ble_eq_true rfl)
  rw [lg_entry_eq]
  generalize (lg_sl ([.ref (a 0), .int m0, .long v, .ref a9]) ++ List.replicate (6 - (lg_sl ([.ref (a 0), .int m0, .long v, .ref a9])).length) Slot.unset).toArray = ls at hl ⊢
  have hl : lv_has ls 6 [(0, .ref (a 0)), (1, .int m0), (2, .long v), (4, .ref a9)] := hl
  have htab : c.exceptionTable.toList = tableOf [(0, 10, 13, 13)] := vx_table (x := yL_amount) B (atoms_spec (ws := (Cond.codeWith yL_amount bL_amount 6 (some .int) [(0, 10, 13, 13)] :: wAll)) B.pre _ List.mem_cons_self)
  refine lv_aload hx hb dL_amount_0 (lv_at hl 3 rfl) ?_
  refine lv_iconst (v := 0) hx hb dL_amount_2 (by decide) ?_
  refine gi_as (y := nI 0) (nI_0.symm) ?_
  refine lv_aload_n hx hb dL_amount_3 rfl (lv_at hl 0 rfl) ?_
  refine lv_iload_n hx hb dL_amount_4 rfl (lv_at hl 1 rfl) ?_
  refine lv_lload_n hx hb dL_amount_5 rfl (lv_at hl 2 rfl) ?_
  have hPc := hP.sub (ws' := (wX a k (nI wn) (nI mn) (nI T.1) fk fa sl ks ct sm le gr)) [0, 1, 2, 3, 4, 5, 6, 7, 8] rfl
  have hDc := hD.sub (ws' := (wX a k (nI wn) (nI mn) (nI T.1) fk fa sl ks ct sm le gr)) [0, 1, 2, 3, 4, 5, 6, 7, 8] (by decide) rfl
  have hKc := hK.sub (tys' := kX k) [0, 1, 2, 3, 4, 5, 6, 7] rfl
  have hFc := va_free (wc := (wX a k (nI wn) (nI mn) (nI T.1) fk fa sl ks ct sm le gr)) hD hS hA [0, 1, 2, 3, 4, 5, 6, 7, 8] rfl
  refine vx_calll (vx_runV (As := [.int m0, .long v]) (rest := [.int (nI 0), .ref a9]) ⟨hx, hb, hml, hown, hta⟩ (c_amount l hnt dC dI a k wn mn fk fa T σ sl ks ct sm le gr hσ hrep m0 v s.heap.size) (cwV 2 hta (gV w174 w175 w176 w1 w177) rfl rfl rfl (by decide +kernel) ⟨Nat.le_of_ble_eq_true rfl, Nat.le_of_ble_eq_true rfl⟩) ⟨gb_X, va_recv hKc hPc (ci := 0) (q0 := 0) rfl rfl, fun U hU hW => ⟨rfl, by rw [hU], by rw [hU]; exact hPc, va_K.moved hW.alike hKc, hDc.weaken (fun _ _ _ _ => trivial), by rw [hU]; exact ((thrE.warm hW hT).kept hS.2.1).narrow hFc⟩⟩ rfl rfl hl.1 rfl (lv_room (Nat.le_of_ble_eq_true rfl)) dL_amount_6 ⟨Nat.le_of_ble_eq_true rfl, Nat.le_of_ble_eq_true rfl⟩) hS (fun q _ h => hFc q h) hFc (fun q _ h => hFc q h) (fun E9 ce q9 u t H1 locs ht hvm hpx hBX hz1 hk1 hS hce hcv hcl => ?_) (fun r_9 u t H1 locs ht hvm hw hB hz1 hk1 hS => ?_)
  · skip
    obtain ⟨hE, hP1, hK1, hD1⟩ := hBX
    subst hE
    rw [ht] at hP1
    obtain ⟨hP, hD⟩ := va_join (wr := [(a9, .inl (k9, 1, .inr (.inl ov)))]) (w1 := (wX a k (nI wn) (nI mn) (nI T.1) fk fa sl ks ct sm le gr)) hP hD [0, 1, 2, 3, 4, 5, 6, 7, 8] [9] rfl rfl (by decide) (by decide) hk1 hFc hP1 hD1
    have hP := hP.sub (ws' := ((wX a k (nI wn) (nI mn) (nI T.1) fk fa sl ks ct sm le gr) ++ [(a9, .inl (k9, 1, .inr (.inl ov)))])) [1, 2, 3, 4, 5, 6, 7, 8, 9, 0] rfl
    have hD := hD.sub (ws' := ((wX a k (nI wn) (nI mn) (nI T.1) fk fa sl ks ct sm le gr) ++ [(a9, .inl (k9, 1, .inr (.inl ov)))])) [1, 2, 3, 4, 5, 6, 7, 8, 9, 0] (by decide) rfl
    have hP : va_P (dC, dI) classes ((wX a k (nI wn) (nI mn) (nI T.1) fk fa sl ks ct sm le gr) ++ [(a9, .inl (k9, 1, .inr (.inl ov)))]) H1 := hP
    have hD : va_D A ((wX a k (nI wn) (nI mn) (nI T.1) fk fa sl ks ct sm le gr) ++ [(a9, .inl (k9, 1, .inr (.inl ov)))]) := hD
    refine vx_catch hown [] ⟨0, 10, 13, 13⟩ [] htab (fun z hz => nomatch hz) (by decide) (by decide) (hta _ w81) (va_Nw.use rfl hT.1.2.2.2) hce hcv hcl ?_
    refine W.cs (cells' := 1) (slots' := 6) rfl rfl ?_
    show W p l e _ s m _ below meth c H1 locs 1 6 _ (F0 m 13 ls [.ref q9])
    refine lv_astore (lv' := [(5, .ref q9), (0, .ref (a 0)), (1, .int m0), (2, .long v), (4, .ref a9)]) hx hb dL_amount_13 hl (by decide) rfl (fun ls hl => ?_)
    refine lv_iconst (v := 1) hx hb dL_amount_15 (by decide) ?_
    exact W.iret (v := 1) hx hb hr (fun t9 ht9 hW9 => ⟨⟨1, (), rfl, (if_neg hpx).symm, ⟨fun h9 => absurd h9 hpx, fun _ => ⟨σ, sl, ks, ct, sm, le, gr, ⟨hσ, hrep⟩, by rw [ht9]; exact hP, va_K.moved hW9.alike hK, hD⟩⟩⟩, hS.F ht9⟩) hS.2.2 dL_amount_16
  · skip
    obtain ⟨hLg, hval⟩ := hw
    obtain ⟨σ1, sl1, ks1, ct1, sm1, le1, gr1, hσr1, hP1, hK1, hD1⟩ := hB
    rw [ht] at hP1
    obtain ⟨hP, hD⟩ := va_join (wr := [(a9, .inl (k9, 1, .inr (.inl ov)))]) (w1 := (wX a k (nI wn) (nI mn) (nI T.1) fk (vp_updL fa m0.toNatClampNeg v) sl1 ks1 ct1 sm1 le1 gr1)) hP hD [0, 1, 2, 3, 4, 5, 6, 7, 8] [9] rfl rfl (by decide) (by decide) hk1 hFc hP1 hD1
    have hP := hP.sub (ws' := ((wX a k (nI wn) (nI mn) (nI T.1) fk (vp_updL fa m0.toNatClampNeg v) sl1 ks1 ct1 sm1 le1 gr1) ++ [(a9, .inl (k9, 1, .inr (.inl ov)))])) [1, 2, 3, 4, 5, 6, 7, 8, 9, 0] rfl
    have hD := hD.sub (ws' := ((wX a k (nI wn) (nI mn) (nI T.1) fk (vp_updL fa m0.toNatClampNeg v) sl1 ks1 ct1 sm1 le1 gr1) ++ [(a9, .inl (k9, 1, .inr (.inl ov)))])) [1, 2, 3, 4, 5, 6, 7, 8, 9, 0] (by decide) rfl
    have hP : va_P (dC, dI) classes ((wX a k (nI wn) (nI mn) (nI T.1) fk (vp_updL fa m0.toNatClampNeg v) sl1 ks1 ct1 sm1 le1 gr1) ++ [(a9, .inl (k9, 1, .inr (.inl ov)))]) H1 := hP
    have hD : va_D A ((wX a k (nI wn) (nI mn) (nI T.1) fk (vp_updL fa m0.toNatClampNeg v) sl1 ks1 ct1 sm1 le1 gr1) ++ [(a9, .inl (k9, 1, .inr (.inl ov)))]) := hD
    refine W.cs (cells' := 1) (slots' := 6) rfl rfl ?_
    subst hval
    show W p l e _ s m _ below meth c H1 locs 1 6 _ (F0 m 9 ls [.long (fa m0.toNatClampNeg), .int (nI 0), .ref a9])
    refine gi_last hx hb hK hP hD hS 9 8 rfl rfl (k := 0) (by omega) (by decide) dL_amount_9 (fun H locs hP hD hS => ?_)
    have hP : va_P (dC, dI) classes ((wX a k (nI wn) (nI mn) (nI T.1) fk (vp_updL fa m0.toNatClampNeg v) sl1 ks1 ct1 sm1 le1 gr1) ++ [(a9, .inl (k9, 1, .inr (.inl (vp_updL ov 0 (fa m0.toNatClampNeg)))))]) H := hP
    have hD : va_D A ((wX a k (nI wn) (nI mn) (nI T.1) fk (vp_updL fa m0.toNatClampNeg v) sl1 ks1 ct1 sm1 le1 gr1) ++ [(a9, .inl (k9, 1, .inr (.inl (vp_updL ov 0 (fa m0.toNatClampNeg)))))]) := hD
    refine lv_goto (tgt := 17) hx hb dL_amount_10 (by decide) ?_
    refine lv_iconst (v := 0) hx hb dL_amount_17 (by decide) ?_
    exact W.iret (v := 0) hx hb hr (fun t9 ht9 hW9 => ⟨⟨0, (), rfl, (if_pos hLg).symm, ⟨fun _ => ⟨σ1, sl1, ks1, ct1, sm1, le1, gr1, hσr1, by rw [ht9]; exact hP, va_K.moved hW9.alike hK, hD⟩, fun h9 => absurd hLg h9⟩⟩, hS.F ht9⟩) hS.2.2 dL_amount_18
set_option maxHeartbeats 4000000 in
set_option maxRecDepth 100000 in
/-- the law's add -/
theorem c_Ladd (l : Launch) (hnt : l.stackTraces = false) (dC : Nat → ClassId) (dI : Nat → Nat → Nat) (a : Nat → Nat) (k : Nat → ClassId) (wn mn : Nat) (fk : Nat → Int32) (fa : Nat → Int64) (T : TB) (σ : Nat → Nat) (sl ks : Nat → Int32) (ct sm le gr : Nat → Int64) (hσ : perm σ sl) (hrep : repT σ wn mn T ks ct sm le gr) (a9 : Nat) (k9 : ClassId) (ov : Nat → Int64) (nn : Int32) (sz : Nat) : Met l yL_add (Cond.codeWith yL_add bL_add 4 (some .int) [(0, 9, 12, 13)] :: wAll) { frames := 7, cells := 1, slots := 6, locals := 192 } (va_Pc [.ref (a 0), .int nn, .ref a9] (fun U => U.heap.size = sz ∧ va_P (dC, dI) classes ((wX a k (nI wn) (nI mn) (nI T.1) fk fa sl ks ct sm le gr) ++ [(a9, .inl (k9, 1, .inr (.inl ov)))]) U.heap ∧ va_K (dC, dI) classes ((kX k) ++ [(k9, .long)]) U ∧ va_D (fun _ => True) ((wX a k (nI wn) (nI mn) (nI T.1) fk fa sl ks ct sm le gr) ++ [(a9, .inl (k9, 1, .inr (.inl ov)))]) ∧ thrE (va_A ((wX a k (nI wn) (nI mn) (nI T.1) fk fa sl ks ct sm le gr) ++ [(a9, .inl (k9, 1, .inr (.inl ov)))]) sz) U U.heap)) (va_Qi (fun (r9 : Int32) (_ : Unit) => r9 = if 1 ≤ nn ∧ nn ≤ 100000 then 0 else 1) (fun (_ : Unit) (t9 : State) => ((1 ≤ nn ∧ nn ≤ 100000) → atXO dC dI (va_A ((wX a k (nI wn) (nI mn) (nI T.1) fk fa sl ks ct sm le gr) ++ [(a9, .inl (k9, 1, .inr (.inl ov)))]) sz) a k a9 k9 wn mn fk fa (takeT wn fk fa nn.toInt64 T).1 (vp_updL ov 0 (if (takeT wn fk fa nn.toInt64 T).2 = true then nI (takeT wn fk fa nn.toInt64 T).1.1 else (-2)).toInt64) t9) ∧ (¬ (1 ≤ nn ∧ nn ≤ 100000) → atXO dC dI (va_A ((wX a k (nI wn) (nI mn) (nI T.1) fk fa sl ks ct sm le gr) ++ [(a9, .inl (k9, 1, .inr (.inl ov)))]) sz) a k a9 k9 wn mn fk fa T ov t9)) (va_A ((wX a k (nI wn) (nI mn) (nI T.1) fk fa sl ks ct sm le gr) ++ [(a9, .inl (k9, 1, .inr (.inl ov)))]) sz)) 1 6 (va_A ((wX a k (nI wn) (nI mn) (nI T.1) fk fa sl ks ct sm le gr) ++ [(a9, .inl (k9, 1, .inr (.inl ov)))]) sz) := by
  refine va_MetW (cc := bL_add) (maxL := 4) (ret := (some .int)) (hh := [(0, 9, 12, 13)]) (by decide) rfl ?_
  intro p e s m args below meth c s₁ B hml hv
  obtain ⟨rfl, hsz, hP, hK, hD0, hT⟩ := hv
  have hx := B.exec
  have hb := B.bytes
  have hr := B.returns
  have hta : ∀ w ∈ wAll, w.before ([.ref (a 0), .int nn, .ref a9] : List Value).toArray s = true := fun w h => atoms_spec (ws := (Cond.codeWith yL_add bL_add 4 (some .int) [(0, 9, 12, 13)] :: wAll)) B.pre w (List.mem_cons_of_mem _ h)
  have hown : s.vm.findClass "GroupRowsLaw" = some m.cls := findClass_of_methodNamed B.named
  have hlocks := B.notSynchronized
  subst hsz
  have hD := hD0.self (sz := s.heap.size)
  generalize hAe : va_A ((wX a k (nI wn) (nI mn) (nI T.1) fk fa sl ks ct sm le gr) ++ [(a9, .inl (k9, 1, .inr (.inl ov)))]) s.heap.size = A at hD hT ⊢
  have hA : ∀ q : Nat, s.heap.size ≤ q → A q := fun q h => by rw [← hAe]; exact Or.inr h
  have hS : va_S A s.heap s.heap [] := va_S.rf
  have hP : va_P (dC, dI) classes ((wX a k (nI wn) (nI mn) (nI T.1) fk fa sl ks ct sm le gr) ++ [(a9, .inl (k9, 1, .inr (.inl ov)))]) s.heap := hP
  have hl := lv_entry ([.ref (a 0), .int nn, .ref a9]) (n := 4) (Nat.le_of_ble_eq_true rfl)
  rw [lg_entry_eq]
  generalize (lg_sl ([.ref (a 0), .int nn, .ref a9]) ++ List.replicate (4 - (lg_sl ([.ref (a 0), .int nn, .ref a9])).length) Slot.unset).toArray = ls at hl ⊢
  have hl : lv_has ls 4 [(0, .ref (a 0)), (1, .int nn), (2, .ref a9)] := hl
  have htab : c.exceptionTable.toList = tableOf [(0, 9, 12, 13)] := vx_table (x := yL_add) B (atoms_spec (ws := (Cond.codeWith yL_add bL_add 4 (some .int) [(0, 9, 12, 13)] :: wAll)) B.pre _ List.mem_cons_self)
  refine lv_aload_n hx hb dL_add_0 rfl (lv_at hl 2 rfl) ?_
  refine lv_iconst (v := 0) hx hb dL_add_1 (by decide) ?_
  refine gi_as (y := nI 0) (nI_0.symm) ?_
  refine lv_aload_n hx hb dL_add_2 rfl (lv_at hl 0 rfl) ?_
  refine lv_iload_n hx hb dL_add_3 rfl (lv_at hl 1 rfl) ?_
  have hPc := hP.sub (ws' := (wX a k (nI wn) (nI mn) (nI T.1) fk fa sl ks ct sm le gr)) [0, 1, 2, 3, 4, 5, 6, 7, 8] rfl
  have hDc := hD.sub (ws' := (wX a k (nI wn) (nI mn) (nI T.1) fk fa sl ks ct sm le gr)) [0, 1, 2, 3, 4, 5, 6, 7, 8] (by decide) rfl
  have hKc := hK.sub (tys' := kX k) [0, 1, 2, 3, 4, 5, 6, 7] rfl
  have hFc := va_free (wc := (wX a k (nI wn) (nI mn) (nI T.1) fk fa sl ks ct sm le gr)) hD hS hA [0, 1, 2, 3, 4, 5, 6, 7, 8] rfl
  refine vx_calli (vx_runV (As := [.int nn]) (rest := [.int (nI 0), .ref a9]) ⟨hx, hb, hml, hown, hta⟩ (c_add l hnt dC dI a k wn mn fk fa T σ sl ks ct sm le gr hσ hrep nn s.heap.size) (cwV 1 hta (gV w186 w187 w188 w1 w189) rfl rfl rfl (by decide +kernel) ⟨Nat.le_of_ble_eq_true rfl, Nat.le_of_ble_eq_true rfl⟩) ⟨gb_X, va_recv hKc hPc (ci := 0) (q0 := 0) rfl rfl, fun U hU hW => ⟨rfl, by rw [hU], by rw [hU]; exact hPc, va_K.moved hW.alike hKc, hDc.weaken (fun _ _ _ _ => trivial), by rw [hU]; exact ((thrE.warm hW hT).kept hS.2.1).narrow hFc⟩⟩ rfl rfl hl.1 rfl (lv_room (Nat.le_of_ble_eq_true rfl)) dL_add_4 ⟨Nat.le_of_ble_eq_true rfl, Nat.le_of_ble_eq_true rfl⟩) hS (fun q _ h => hFc q h) hFc (fun q _ h => hFc q h) (fun E9 ce q9 u t H1 locs ht hvm hpx hBX hz1 hk1 hS hce hcv hcl => ?_) (fun r_9 u t H1 locs ht hvm hw hB hz1 hk1 hS => ?_)
  · skip
    obtain ⟨hE, hP1, hK1, hD1⟩ := hBX
    subst hE
    rw [ht] at hP1
    obtain ⟨hP, hD⟩ := va_join (wr := [(a9, .inl (k9, 1, .inr (.inl ov)))]) (w1 := (wX a k (nI wn) (nI mn) (nI T.1) fk fa sl ks ct sm le gr)) hP hD [0, 1, 2, 3, 4, 5, 6, 7, 8] [9] rfl rfl (by decide) (by decide) hk1 hFc hP1 hD1
    have hP := hP.sub (ws' := ((wX a k (nI wn) (nI mn) (nI T.1) fk fa sl ks ct sm le gr) ++ [(a9, .inl (k9, 1, .inr (.inl ov)))])) [1, 2, 3, 4, 5, 6, 7, 8, 9, 0] rfl
    have hD := hD.sub (ws' := ((wX a k (nI wn) (nI mn) (nI T.1) fk fa sl ks ct sm le gr) ++ [(a9, .inl (k9, 1, .inr (.inl ov)))])) [1, 2, 3, 4, 5, 6, 7, 8, 9, 0] (by decide) rfl
    have hP : va_P (dC, dI) classes ((wX a k (nI wn) (nI mn) (nI T.1) fk fa sl ks ct sm le gr) ++ [(a9, .inl (k9, 1, .inr (.inl ov)))]) H1 := hP
    have hD : va_D A ((wX a k (nI wn) (nI mn) (nI T.1) fk fa sl ks ct sm le gr) ++ [(a9, .inl (k9, 1, .inr (.inl ov)))]) := hD
    refine vx_catch hown [] ⟨0, 9, 12, 13⟩ [] htab (fun z hz => nomatch hz) (by decide) (by decide) (hta _ w81) (va_Nw.use rfl hT.1.2.2.2) hce hcv hcl ?_
    refine W.cs (cells' := 1) (slots' := 6) rfl rfl ?_
    show W p l e _ s m _ below meth c H1 locs 1 6 _ (F0 m 12 ls [.ref q9])
    refine lv_astore_n (lv' := [(3, .ref q9), (0, .ref (a 0)), (1, .int nn), (2, .ref a9)]) hx hb dL_add_12 rfl hl (by decide) rfl (fun ls hl => ?_)
    refine lv_iconst (v := 1) hx hb dL_add_13 (by decide) ?_
    exact W.iret (v := 1) hx hb hr (fun t9 ht9 hW9 => ⟨⟨1, (), rfl, (if_neg hpx).symm, ⟨fun h9 => absurd h9 hpx, fun _ => ⟨σ, sl, ks, ct, sm, le, gr, ⟨hσ, hrep⟩, by rw [ht9]; exact hP, va_K.moved hW9.alike hK, hD⟩⟩⟩, hS.F ht9⟩) hS.2.2 dL_add_14
  · skip
    obtain ⟨hLg, hval⟩ := hw
    obtain ⟨σ1, sl1, ks1, ct1, sm1, le1, gr1, hσr1, hP1, hK1, hD1⟩ := hB
    rw [ht] at hP1
    obtain ⟨hP, hD⟩ := va_join (wr := [(a9, .inl (k9, 1, .inr (.inl ov)))]) (w1 := (wX a k (nI wn) (nI mn) (nI (takeT wn fk fa nn.toInt64 T).1.1) fk fa sl1 ks1 ct1 sm1 le1 gr1)) hP hD [0, 1, 2, 3, 4, 5, 6, 7, 8] [9] rfl rfl (by decide) (by decide) hk1 hFc hP1 hD1
    have hP := hP.sub (ws' := ((wX a k (nI wn) (nI mn) (nI (takeT wn fk fa nn.toInt64 T).1.1) fk fa sl1 ks1 ct1 sm1 le1 gr1) ++ [(a9, .inl (k9, 1, .inr (.inl ov)))])) [1, 2, 3, 4, 5, 6, 7, 8, 9, 0] rfl
    have hD := hD.sub (ws' := ((wX a k (nI wn) (nI mn) (nI (takeT wn fk fa nn.toInt64 T).1.1) fk fa sl1 ks1 ct1 sm1 le1 gr1) ++ [(a9, .inl (k9, 1, .inr (.inl ov)))])) [1, 2, 3, 4, 5, 6, 7, 8, 9, 0] (by decide) rfl
    have hP : va_P (dC, dI) classes ((wX a k (nI wn) (nI mn) (nI (takeT wn fk fa nn.toInt64 T).1.1) fk fa sl1 ks1 ct1 sm1 le1 gr1) ++ [(a9, .inl (k9, 1, .inr (.inl ov)))]) H1 := hP
    have hD : va_D A ((wX a k (nI wn) (nI mn) (nI (takeT wn fk fa nn.toInt64 T).1.1) fk fa sl1 ks1 ct1 sm1 le1 gr1) ++ [(a9, .inl (k9, 1, .inr (.inl ov)))]) := hD
    refine W.cs (cells' := 1) (slots' := 6) rfl rfl ?_
    subst hval
    show W p l e _ s m _ below meth c H1 locs 1 6 _ (F0 m 7 ls [.int (if (takeT wn fk fa nn.toInt64 T).2 = true then nI (takeT wn fk fa nn.toInt64 T).1.1 else (-2)), .int (nI 0), .ref a9])
    refine lv_i2l (v := (if (takeT wn fk fa nn.toInt64 T).2 = true then nI (takeT wn fk fa nn.toInt64 T).1.1 else (-2)).toInt64) hx hb dL_add_7 rfl ?_
    refine gi_last hx hb hK hP hD hS 9 8 rfl rfl (k := 0) (by omega) (by decide) dL_add_8 (fun H locs hP hD hS => ?_)
    have hP : va_P (dC, dI) classes ((wX a k (nI wn) (nI mn) (nI (takeT wn fk fa nn.toInt64 T).1.1) fk fa sl1 ks1 ct1 sm1 le1 gr1) ++ [(a9, .inl (k9, 1, .inr (.inl (vp_updL ov 0 ((if (takeT wn fk fa nn.toInt64 T).2 = true then nI (takeT wn fk fa nn.toInt64 T).1.1 else (-2)).toInt64)))))]) H := hP
    have hD : va_D A ((wX a k (nI wn) (nI mn) (nI (takeT wn fk fa nn.toInt64 T).1.1) fk fa sl1 ks1 ct1 sm1 le1 gr1) ++ [(a9, .inl (k9, 1, .inr (.inl (vp_updL ov 0 ((if (takeT wn fk fa nn.toInt64 T).2 = true then nI (takeT wn fk fa nn.toInt64 T).1.1 else (-2)).toInt64)))))]) := hD
    refine lv_goto (tgt := 15) hx hb dL_add_9 (by decide) ?_
    refine lv_iconst (v := 0) hx hb dL_add_15 (by decide) ?_
    exact W.iret (v := 0) hx hb hr (fun t9 ht9 hW9 => ⟨⟨0, (), rfl, (if_pos hLg).symm, ⟨fun _ => ⟨σ1, sl1, ks1, ct1, sm1, le1, gr1, hσr1, by rw [ht9]; exact hP, va_K.moved hW9.alike hK, hD⟩, fun h9 => absurd hLg h9⟩⟩, hS.F ht9⟩) hS.2.2 dL_add_16
set_option maxHeartbeats 4000000 in
set_option maxRecDepth 100000 in
/-- the law's spread -/
theorem c_Lspread (l : Launch) (hnt : l.stackTraces = false) (dC : Nat → ClassId) (dI : Nat → Nat → Nat) (a : Nat → Nat) (k : Nat → ClassId) (wn mn : Nat) (fk : Nat → Int32) (fa : Nat → Int64) (T : TB) (σ : Nat → Nat) (sl ks : Nat → Int32) (ct sm le gr : Nat → Int64) (hσ : perm σ sl) (hrep : repT σ wn mn T ks ct sm le gr) (a9 : Nat) (k9 : ClassId) (ov : Nat → Int64) (nn i st : Int32) (sz : Nat) : Met l yL_spread (Cond.codeWith yL_spread bL_spread 6 (some .int) [(0, 12, 15, 13)] :: wAll) { frames := 7, cells := 1, slots := 6, locals := 192 } (va_Pc [.ref (a 0), .int nn, .int i, .int st, .ref a9] (fun U => U.heap.size = sz ∧ va_P (dC, dI) classes ((wX a k (nI wn) (nI mn) (nI T.1) fk fa sl ks ct sm le gr) ++ [(a9, .inl (k9, 1, .inr (.inl ov)))]) U.heap ∧ va_K (dC, dI) classes ((kX k) ++ [(k9, .long)]) U ∧ va_D (fun _ => True) ((wX a k (nI wn) (nI mn) (nI T.1) fk fa sl ks ct sm le gr) ++ [(a9, .inl (k9, 1, .inr (.inl ov)))]) ∧ thrE (va_A ((wX a k (nI wn) (nI mn) (nI T.1) fk fa sl ks ct sm le gr) ++ [(a9, .inl (k9, 1, .inr (.inl ov)))]) sz) U U.heap)) (va_Qi (fun (r9 : Int32) (_ : Unit) => r9 = if (0 ≤ i ∧ i < nI wn) ∧ 1 ≤ nn ∧ nn ≤ 5000 then 0 else 1) (fun (_ : Unit) (t9 : State) => (((0 ≤ i ∧ i < nI wn) ∧ 1 ≤ nn ∧ nn ≤ 5000) → atXO dC dI (va_A ((wX a k (nI wn) (nI mn) (nI T.1) fk fa sl ks ct sm le gr) ++ [(a9, .inl (k9, 1, .inr (.inl ov)))]) sz) a k a9 k9 wn mn (sprT wn mn i.toNatClampNeg st nn.toNatClampNeg 0 fk fa T).2.1 (sprT wn mn i.toNatClampNeg st nn.toNatClampNeg 0 fk fa T).2.2.1 (sprT wn mn i.toNatClampNeg st nn.toNatClampNeg 0 fk fa T).2.2.2 (vp_updL ov 0 (nI (sprT wn mn i.toNatClampNeg st nn.toNatClampNeg 0 fk fa T).1).toInt64) t9) ∧ (¬ ((0 ≤ i ∧ i < nI wn) ∧ 1 ≤ nn ∧ nn ≤ 5000) → atXO dC dI (va_A ((wX a k (nI wn) (nI mn) (nI T.1) fk fa sl ks ct sm le gr) ++ [(a9, .inl (k9, 1, .inr (.inl ov)))]) sz) a k a9 k9 wn mn fk fa T ov t9)) (va_A ((wX a k (nI wn) (nI mn) (nI T.1) fk fa sl ks ct sm le gr) ++ [(a9, .inl (k9, 1, .inr (.inl ov)))]) sz)) 1 6 (va_A ((wX a k (nI wn) (nI mn) (nI T.1) fk fa sl ks ct sm le gr) ++ [(a9, .inl (k9, 1, .inr (.inl ov)))]) sz) := by
  refine va_MetW (cc := bL_spread) (maxL := 6) (ret := (some .int)) (hh := [(0, 12, 15, 13)]) (by decide) rfl ?_
  intro p e s m args below meth c s₁ B hml hv
  obtain ⟨rfl, hsz, hP, hK, hD0, hT⟩ := hv
  have hx := B.exec
  have hb := B.bytes
  have hr := B.returns
  have hta : ∀ w ∈ wAll, w.before ([.ref (a 0), .int nn, .int i, .int st, .ref a9] : List Value).toArray s = true := fun w h => atoms_spec (ws := (Cond.codeWith yL_spread bL_spread 6 (some .int) [(0, 12, 15, 13)] :: wAll)) B.pre w (List.mem_cons_of_mem _ h)
  have hown : s.vm.findClass "GroupRowsLaw" = some m.cls := findClass_of_methodNamed B.named
  have hlocks := B.notSynchronized
  subst hsz
  have hD := hD0.self (sz := s.heap.size)
  generalize hAe : va_A ((wX a k (nI wn) (nI mn) (nI T.1) fk fa sl ks ct sm le gr) ++ [(a9, .inl (k9, 1, .inr (.inl ov)))]) s.heap.size = A at hD hT ⊢
  have hA : ∀ q : Nat, s.heap.size ≤ q → A q := fun q h => by rw [← hAe]; exact Or.inr h
  have hS : va_S A s.heap s.heap [] := va_S.rf
  have hP : va_P (dC, dI) classes ((wX a k (nI wn) (nI mn) (nI T.1) fk fa sl ks ct sm le gr) ++ [(a9, .inl (k9, 1, .inr (.inl ov)))]) s.heap := hP
  have hl := lv_entry ([.ref (a 0), .int nn, .int i, .int st, .ref a9]) (n := 6) (Nat.le_of_ble_eq_true rfl)
  rw [lg_entry_eq]
  generalize (lg_sl ([.ref (a 0), .int nn, .int i, .int st, .ref a9]) ++ List.replicate (6 - (lg_sl ([.ref (a 0), .int nn, .int i, .int st, .ref a9])).length) Slot.unset).toArray = ls at hl ⊢
  have hl : lv_has ls 6 [(0, .ref (a 0)), (1, .int nn), (2, .int i), (3, .int st), (4, .ref a9)] := hl
  have htab : c.exceptionTable.toList = tableOf [(0, 12, 15, 13)] := vx_table (x := yL_spread) B (atoms_spec (ws := (Cond.codeWith yL_spread bL_spread 6 (some .int) [(0, 12, 15, 13)] :: wAll)) B.pre _ List.mem_cons_self)
  refine lv_aload hx hb dL_spread_0 (lv_at hl 4 rfl) ?_
  refine lv_iconst (v := 0) hx hb dL_spread_2 (by decide) ?_
  refine gi_as (y := nI 0) (nI_0.symm) ?_
  refine lv_aload_n hx hb dL_spread_3 rfl (lv_at hl 0 rfl) ?_
  refine lv_iload_n hx hb dL_spread_4 rfl (lv_at hl 1 rfl) ?_
  refine lv_iload_n hx hb dL_spread_5 rfl (lv_at hl 2 rfl) ?_
  refine lv_iload_n hx hb dL_spread_6 rfl (lv_at hl 3 rfl) ?_
  have hPc := hP.sub (ws' := (wX a k (nI wn) (nI mn) (nI T.1) fk fa sl ks ct sm le gr)) [0, 1, 2, 3, 4, 5, 6, 7, 8] rfl
  have hDc := hD.sub (ws' := (wX a k (nI wn) (nI mn) (nI T.1) fk fa sl ks ct sm le gr)) [0, 1, 2, 3, 4, 5, 6, 7, 8] (by decide) rfl
  have hKc := hK.sub (tys' := kX k) [0, 1, 2, 3, 4, 5, 6, 7] rfl
  have hFc := va_free (wc := (wX a k (nI wn) (nI mn) (nI T.1) fk fa sl ks ct sm le gr)) hD hS hA [0, 1, 2, 3, 4, 5, 6, 7, 8] rfl
  refine vx_calli (vx_runV (As := [.int nn, .int i, .int st]) (rest := [.int (nI 0), .ref a9]) ⟨hx, hb, hml, hown, hta⟩ (c_spread l hnt dC dI a k wn mn fk fa T σ sl ks ct sm le gr hσ hrep nn i st s.heap.size) (cwV 3 hta (gV w220 w221 w222 w1 w223) rfl rfl rfl (by decide +kernel) ⟨Nat.le_of_ble_eq_true rfl, Nat.le_of_ble_eq_true rfl⟩) ⟨gb_X, va_recv hKc hPc (ci := 0) (q0 := 0) rfl rfl, fun U hU hW => ⟨rfl, by rw [hU], by rw [hU]; exact hPc, va_K.moved hW.alike hKc, hDc.weaken (fun _ _ _ _ => trivial), by rw [hU]; exact ((thrE.warm hW hT).kept hS.2.1).narrow hFc⟩⟩ rfl rfl hl.1 rfl (lv_room (Nat.le_of_ble_eq_true rfl)) dL_spread_7 ⟨Nat.le_of_ble_eq_true rfl, Nat.le_of_ble_eq_true rfl⟩) hS (fun q _ h => hFc q h) hFc (fun q _ h => hFc q h) (fun E9 ce q9 u t H1 locs ht hvm hpx hBX hz1 hk1 hS hce hcv hcl => ?_) (fun r_9 u t H1 locs ht hvm hw hB hz1 hk1 hS => ?_)
  · skip
    obtain ⟨hE, hP1, hK1, hD1⟩ := hBX
    subst hE
    rw [ht] at hP1
    obtain ⟨hP, hD⟩ := va_join (wr := [(a9, .inl (k9, 1, .inr (.inl ov)))]) (w1 := (wX a k (nI wn) (nI mn) (nI T.1) fk fa sl ks ct sm le gr)) hP hD [0, 1, 2, 3, 4, 5, 6, 7, 8] [9] rfl rfl (by decide) (by decide) hk1 hFc hP1 hD1
    have hP := hP.sub (ws' := ((wX a k (nI wn) (nI mn) (nI T.1) fk fa sl ks ct sm le gr) ++ [(a9, .inl (k9, 1, .inr (.inl ov)))])) [1, 2, 3, 4, 5, 6, 7, 8, 9, 0] rfl
    have hD := hD.sub (ws' := ((wX a k (nI wn) (nI mn) (nI T.1) fk fa sl ks ct sm le gr) ++ [(a9, .inl (k9, 1, .inr (.inl ov)))])) [1, 2, 3, 4, 5, 6, 7, 8, 9, 0] (by decide) rfl
    have hP : va_P (dC, dI) classes ((wX a k (nI wn) (nI mn) (nI T.1) fk fa sl ks ct sm le gr) ++ [(a9, .inl (k9, 1, .inr (.inl ov)))]) H1 := hP
    have hD : va_D A ((wX a k (nI wn) (nI mn) (nI T.1) fk fa sl ks ct sm le gr) ++ [(a9, .inl (k9, 1, .inr (.inl ov)))]) := hD
    refine vx_catch hown [] ⟨0, 12, 15, 13⟩ [] htab (fun z hz => nomatch hz) (by decide) (by decide) (hta _ w81) (va_Nw.use rfl hT.1.2.2.2) hce hcv hcl ?_
    refine W.cs (cells' := 1) (slots' := 6) rfl rfl ?_
    show W p l e _ s m _ below meth c H1 locs 1 6 _ (F0 m 15 ls [.ref q9])
    refine lv_astore (lv' := [(5, .ref q9), (0, .ref (a 0)), (1, .int nn), (2, .int i), (3, .int st), (4, .ref a9)]) hx hb dL_spread_15 hl (by decide) rfl (fun ls hl => ?_)
    refine lv_iconst (v := 1) hx hb dL_spread_17 (by decide) ?_
    exact W.iret (v := 1) hx hb hr (fun t9 ht9 hW9 => ⟨⟨1, (), rfl, (if_neg hpx).symm, ⟨fun h9 => absurd h9 hpx, fun _ => ⟨σ, sl, ks, ct, sm, le, gr, ⟨hσ, hrep⟩, by rw [ht9]; exact hP, va_K.moved hW9.alike hK, hD⟩⟩⟩, hS.F ht9⟩) hS.2.2 dL_spread_18
  · skip
    obtain ⟨hLg, hval⟩ := hw
    obtain ⟨σ1, sl1, ks1, ct1, sm1, le1, gr1, hσr1, hP1, hK1, hD1⟩ := hB
    rw [ht] at hP1
    obtain ⟨hP, hD⟩ := va_join (wr := [(a9, .inl (k9, 1, .inr (.inl ov)))]) (w1 := (wX a k (nI wn) (nI mn) (nI (sprT wn mn i.toNatClampNeg st nn.toNatClampNeg 0 fk fa T).2.2.2.1) ((sprT wn mn i.toNatClampNeg st nn.toNatClampNeg 0 fk fa T).2.1) ((sprT wn mn i.toNatClampNeg st nn.toNatClampNeg 0 fk fa T).2.2.1) sl1 ks1 ct1 sm1 le1 gr1)) hP hD [0, 1, 2, 3, 4, 5, 6, 7, 8] [9] rfl rfl (by decide) (by decide) hk1 hFc hP1 hD1
    have hP := hP.sub (ws' := ((wX a k (nI wn) (nI mn) (nI (sprT wn mn i.toNatClampNeg st nn.toNatClampNeg 0 fk fa T).2.2.2.1) ((sprT wn mn i.toNatClampNeg st nn.toNatClampNeg 0 fk fa T).2.1) ((sprT wn mn i.toNatClampNeg st nn.toNatClampNeg 0 fk fa T).2.2.1) sl1 ks1 ct1 sm1 le1 gr1) ++ [(a9, .inl (k9, 1, .inr (.inl ov)))])) [1, 2, 3, 4, 5, 6, 7, 8, 9, 0] rfl
    have hD := hD.sub (ws' := ((wX a k (nI wn) (nI mn) (nI (sprT wn mn i.toNatClampNeg st nn.toNatClampNeg 0 fk fa T).2.2.2.1) ((sprT wn mn i.toNatClampNeg st nn.toNatClampNeg 0 fk fa T).2.1) ((sprT wn mn i.toNatClampNeg st nn.toNatClampNeg 0 fk fa T).2.2.1) sl1 ks1 ct1 sm1 le1 gr1) ++ [(a9, .inl (k9, 1, .inr (.inl ov)))])) [1, 2, 3, 4, 5, 6, 7, 8, 9, 0] (by decide) rfl
    have hP : va_P (dC, dI) classes ((wX a k (nI wn) (nI mn) (nI (sprT wn mn i.toNatClampNeg st nn.toNatClampNeg 0 fk fa T).2.2.2.1) ((sprT wn mn i.toNatClampNeg st nn.toNatClampNeg 0 fk fa T).2.1) ((sprT wn mn i.toNatClampNeg st nn.toNatClampNeg 0 fk fa T).2.2.1) sl1 ks1 ct1 sm1 le1 gr1) ++ [(a9, .inl (k9, 1, .inr (.inl ov)))]) H1 := hP
    have hD : va_D A ((wX a k (nI wn) (nI mn) (nI (sprT wn mn i.toNatClampNeg st nn.toNatClampNeg 0 fk fa T).2.2.2.1) ((sprT wn mn i.toNatClampNeg st nn.toNatClampNeg 0 fk fa T).2.1) ((sprT wn mn i.toNatClampNeg st nn.toNatClampNeg 0 fk fa T).2.2.1) sl1 ks1 ct1 sm1 le1 gr1) ++ [(a9, .inl (k9, 1, .inr (.inl ov)))]) := hD
    refine W.cs (cells' := 1) (slots' := 6) rfl rfl ?_
    subst hval
    show W p l e _ s m _ below meth c H1 locs 1 6 _ (F0 m 10 ls [.int (nI (sprT wn mn i.toNatClampNeg st nn.toNatClampNeg 0 fk fa T).1), .int (nI 0), .ref a9])
    refine lv_i2l (v := (nI (sprT wn mn i.toNatClampNeg st nn.toNatClampNeg 0 fk fa T).1).toInt64) hx hb dL_spread_10 rfl ?_
    refine gi_last hx hb hK hP hD hS 9 8 rfl rfl (k := 0) (by omega) (by decide) dL_spread_11 (fun H locs hP hD hS => ?_)
    have hP : va_P (dC, dI) classes ((wX a k (nI wn) (nI mn) (nI (sprT wn mn i.toNatClampNeg st nn.toNatClampNeg 0 fk fa T).2.2.2.1) ((sprT wn mn i.toNatClampNeg st nn.toNatClampNeg 0 fk fa T).2.1) ((sprT wn mn i.toNatClampNeg st nn.toNatClampNeg 0 fk fa T).2.2.1) sl1 ks1 ct1 sm1 le1 gr1) ++ [(a9, .inl (k9, 1, .inr (.inl (vp_updL ov 0 ((nI (sprT wn mn i.toNatClampNeg st nn.toNatClampNeg 0 fk fa T).1).toInt64)))))]) H := hP
    have hD : va_D A ((wX a k (nI wn) (nI mn) (nI (sprT wn mn i.toNatClampNeg st nn.toNatClampNeg 0 fk fa T).2.2.2.1) ((sprT wn mn i.toNatClampNeg st nn.toNatClampNeg 0 fk fa T).2.1) ((sprT wn mn i.toNatClampNeg st nn.toNatClampNeg 0 fk fa T).2.2.1) sl1 ks1 ct1 sm1 le1 gr1) ++ [(a9, .inl (k9, 1, .inr (.inl (vp_updL ov 0 ((nI (sprT wn mn i.toNatClampNeg st nn.toNatClampNeg 0 fk fa T).1).toInt64)))))]) := hD
    refine lv_goto (tgt := 19) hx hb dL_spread_12 (by decide) ?_
    refine lv_iconst (v := 0) hx hb dL_spread_19 (by decide) ?_
    exact W.iret (v := 0) hx hb hr (fun t9 ht9 hW9 => ⟨⟨0, (), rfl, (if_pos hLg).symm, ⟨fun _ => ⟨σ1, sl1, ks1, ct1, sm1, le1, gr1, hσr1, by rw [ht9]; exact hP, va_K.moved hW9.alike hK, hD⟩, fun h9 => absurd hLg h9⟩⟩, hS.F ht9⟩) hS.2.2 dL_spread_20
set_option maxHeartbeats 4000000 in
set_option maxRecDepth 100000 in
/-- the law's roll -/
theorem c_Lroll (l : Launch) (hnt : l.stackTraces = false) (dC : Nat → ClassId) (dI : Nat → Nat → Nat) (a : Nat → Nat) (k : Nat → ClassId) (wn mn : Nat) (fk : Nat → Int32) (fa : Nat → Int64) (T : TB) (σ : Nat → Nat) (sl ks : Nat → Int32) (ct sm le gr : Nat → Int64) (hσ : perm σ sl) (hrep : repT σ wn mn T ks ct sm le gr) (a9 : Nat) (k9 : ClassId) (ov : Nat → Int64) (i : Int32) (sz : Nat) : Met l yL_roll (Cond.codeWith yL_roll bL_roll 4 (some .int) [(0, 9, 12, 13)] :: wAll) { frames := 7, cells := 1, slots := 6, locals := 192 } (va_Pc [.ref (a 0), .int i, .ref a9] (fun U => U.heap.size = sz ∧ va_P (dC, dI) classes ((wX a k (nI wn) (nI mn) (nI T.1) fk fa sl ks ct sm le gr) ++ [(a9, .inl (k9, 1, .inr (.inl ov)))]) U.heap ∧ va_K (dC, dI) classes ((kX k) ++ [(k9, .long)]) U ∧ va_D (fun _ => True) ((wX a k (nI wn) (nI mn) (nI T.1) fk fa sl ks ct sm le gr) ++ [(a9, .inl (k9, 1, .inr (.inl ov)))]) ∧ thrE (va_A ((wX a k (nI wn) (nI mn) (nI T.1) fk fa sl ks ct sm le gr) ++ [(a9, .inl (k9, 1, .inr (.inl ov)))]) sz) U U.heap)) (va_Qi (fun (r9 : Int32) (u9 : TB) => r9 = if 0 ≤ i ∧ i < nI wn then 0 else 1) (fun (u9 : TB) (t9 : State) => ((0 ≤ i ∧ i < nI wn) → (rollR wn mn i.toNatClampNeg T u9 ∧ atXO dC dI (va_A ((wX a k (nI wn) (nI mn) (nI T.1) fk fa sl ks ct sm le gr) ++ [(a9, .inl (k9, 1, .inr (.inl ov)))]) sz) a k a9 k9 wn mn fk fa u9 (vp_updL ov 0 (nI u9.1).toInt64) t9)) ∧ (¬ (0 ≤ i ∧ i < nI wn) → atXO dC dI (va_A ((wX a k (nI wn) (nI mn) (nI T.1) fk fa sl ks ct sm le gr) ++ [(a9, .inl (k9, 1, .inr (.inl ov)))]) sz) a k a9 k9 wn mn fk fa T ov t9)) (va_A ((wX a k (nI wn) (nI mn) (nI T.1) fk fa sl ks ct sm le gr) ++ [(a9, .inl (k9, 1, .inr (.inl ov)))]) sz)) 1 6 (va_A ((wX a k (nI wn) (nI mn) (nI T.1) fk fa sl ks ct sm le gr) ++ [(a9, .inl (k9, 1, .inr (.inl ov)))]) sz) := by
  refine va_MetW (cc := bL_roll) (maxL := 4) (ret := (some .int)) (hh := [(0, 9, 12, 13)]) (by decide) rfl ?_
  intro p e s m args below meth c s₁ B hml hv
  obtain ⟨rfl, hsz, hP, hK, hD0, hT⟩ := hv
  have hx := B.exec
  have hb := B.bytes
  have hr := B.returns
  have hta : ∀ w ∈ wAll, w.before ([.ref (a 0), .int i, .ref a9] : List Value).toArray s = true := fun w h => atoms_spec (ws := (Cond.codeWith yL_roll bL_roll 4 (some .int) [(0, 9, 12, 13)] :: wAll)) B.pre w (List.mem_cons_of_mem _ h)
  have hown : s.vm.findClass "GroupRowsLaw" = some m.cls := findClass_of_methodNamed B.named
  have hlocks := B.notSynchronized
  subst hsz
  have hD := hD0.self (sz := s.heap.size)
  generalize hAe : va_A ((wX a k (nI wn) (nI mn) (nI T.1) fk fa sl ks ct sm le gr) ++ [(a9, .inl (k9, 1, .inr (.inl ov)))]) s.heap.size = A at hD hT ⊢
  have hA : ∀ q : Nat, s.heap.size ≤ q → A q := fun q h => by rw [← hAe]; exact Or.inr h
  have hS : va_S A s.heap s.heap [] := va_S.rf
  have hP : va_P (dC, dI) classes ((wX a k (nI wn) (nI mn) (nI T.1) fk fa sl ks ct sm le gr) ++ [(a9, .inl (k9, 1, .inr (.inl ov)))]) s.heap := hP
  have hl := lv_entry ([.ref (a 0), .int i, .ref a9]) (n := 4) (Nat.le_of_ble_eq_true rfl)
  rw [lg_entry_eq]
  generalize (lg_sl ([.ref (a 0), .int i, .ref a9]) ++ List.replicate (4 - (lg_sl ([.ref (a 0), .int i, .ref a9])).length) Slot.unset).toArray = ls at hl ⊢
  have hl : lv_has ls 4 [(0, .ref (a 0)), (1, .int i), (2, .ref a9)] := hl
  have htab : c.exceptionTable.toList = tableOf [(0, 9, 12, 13)] := vx_table (x := yL_roll) B (atoms_spec (ws := (Cond.codeWith yL_roll bL_roll 4 (some .int) [(0, 9, 12, 13)] :: wAll)) B.pre _ List.mem_cons_self)
  refine lv_aload_n hx hb dL_roll_0 rfl (lv_at hl 2 rfl) ?_
  refine lv_iconst (v := 0) hx hb dL_roll_1 (by decide) ?_
  refine gi_as (y := nI 0) (nI_0.symm) ?_
  refine lv_aload_n hx hb dL_roll_2 rfl (lv_at hl 0 rfl) ?_
  refine lv_iload_n hx hb dL_roll_3 rfl (lv_at hl 1 rfl) ?_
  have hPc := hP.sub (ws' := (wX a k (nI wn) (nI mn) (nI T.1) fk fa sl ks ct sm le gr)) [0, 1, 2, 3, 4, 5, 6, 7, 8] rfl
  have hDc := hD.sub (ws' := (wX a k (nI wn) (nI mn) (nI T.1) fk fa sl ks ct sm le gr)) [0, 1, 2, 3, 4, 5, 6, 7, 8] (by decide) rfl
  have hKc := hK.sub (tys' := kX k) [0, 1, 2, 3, 4, 5, 6, 7] rfl
  have hFc := va_free (wc := (wX a k (nI wn) (nI mn) (nI T.1) fk fa sl ks ct sm le gr)) hD hS hA [0, 1, 2, 3, 4, 5, 6, 7, 8] rfl
  refine vx_calli (vx_runV (As := [.int i]) (rest := [.int (nI 0), .ref a9]) ⟨hx, hb, hml, hown, hta⟩ (c_roll l hnt dC dI a k wn mn fk fa T σ sl ks ct sm le gr hσ hrep i s.heap.size) (cwV 1 hta (gV w232 w233 w234 w1 w235) rfl rfl rfl (by decide +kernel) ⟨Nat.le_of_ble_eq_true rfl, Nat.le_of_ble_eq_true rfl⟩) ⟨gb_X, va_recv hKc hPc (ci := 0) (q0 := 0) rfl rfl, fun U hU hW => ⟨rfl, by rw [hU], by rw [hU]; exact hPc, va_K.moved hW.alike hKc, hDc.weaken (fun _ _ _ _ => trivial), by rw [hU]; exact ((thrE.warm hW hT).kept hS.2.1).narrow hFc⟩⟩ rfl rfl hl.1 rfl (lv_room (Nat.le_of_ble_eq_true rfl)) dL_roll_4 ⟨Nat.le_of_ble_eq_true rfl, Nat.le_of_ble_eq_true rfl⟩) hS (fun q _ h => hFc q h) hFc (fun q _ h => hFc q h) (fun E9 ce q9 u t H1 locs ht hvm hpx hBX hz1 hk1 hS hce hcv hcl => ?_) (fun r_9 u t H1 locs ht hvm hw hB hz1 hk1 hS => ?_)
  · skip
    obtain ⟨hE, hP1, hK1, hD1⟩ := hBX
    subst hE
    rw [ht] at hP1
    obtain ⟨hP, hD⟩ := va_join (wr := [(a9, .inl (k9, 1, .inr (.inl ov)))]) (w1 := (wX a k (nI wn) (nI mn) (nI T.1) fk fa sl ks ct sm le gr)) hP hD [0, 1, 2, 3, 4, 5, 6, 7, 8] [9] rfl rfl (by decide) (by decide) hk1 hFc hP1 hD1
    have hP := hP.sub (ws' := ((wX a k (nI wn) (nI mn) (nI T.1) fk fa sl ks ct sm le gr) ++ [(a9, .inl (k9, 1, .inr (.inl ov)))])) [1, 2, 3, 4, 5, 6, 7, 8, 9, 0] rfl
    have hD := hD.sub (ws' := ((wX a k (nI wn) (nI mn) (nI T.1) fk fa sl ks ct sm le gr) ++ [(a9, .inl (k9, 1, .inr (.inl ov)))])) [1, 2, 3, 4, 5, 6, 7, 8, 9, 0] (by decide) rfl
    have hP : va_P (dC, dI) classes ((wX a k (nI wn) (nI mn) (nI T.1) fk fa sl ks ct sm le gr) ++ [(a9, .inl (k9, 1, .inr (.inl ov)))]) H1 := hP
    have hD : va_D A ((wX a k (nI wn) (nI mn) (nI T.1) fk fa sl ks ct sm le gr) ++ [(a9, .inl (k9, 1, .inr (.inl ov)))]) := hD
    refine vx_catch hown [] ⟨0, 9, 12, 13⟩ [] htab (fun z hz => nomatch hz) (by decide) (by decide) (hta _ w81) (va_Nw.use rfl hT.1.2.2.2) hce hcv hcl ?_
    refine W.cs (cells' := 1) (slots' := 6) rfl rfl ?_
    show W p l e _ s m _ below meth c H1 locs 1 6 _ (F0 m 12 ls [.ref q9])
    refine lv_astore_n (lv' := [(3, .ref q9), (0, .ref (a 0)), (1, .int i), (2, .ref a9)]) hx hb dL_roll_12 rfl hl (by decide) rfl (fun ls hl => ?_)
    refine lv_iconst (v := 1) hx hb dL_roll_13 (by decide) ?_
    exact W.iret (v := 1) hx hb hr (fun t9 ht9 hW9 => ⟨⟨1, T, rfl, (if_neg hpx).symm, ⟨fun h9 => absurd h9 hpx, fun _ => ⟨σ, sl, ks, ct, sm, le, gr, ⟨hσ, hrep⟩, by rw [ht9]; exact hP, va_K.moved hW9.alike hK, hD⟩⟩⟩, hS.F ht9⟩) hS.2.2 dL_roll_14
  · skip
    obtain ⟨hLg, hval, hroll⟩ := hw
    obtain ⟨σ1, sl1, ks1, ct1, sm1, le1, gr1, hσr1, hP1, hK1, hD1⟩ := hB
    rw [ht] at hP1
    obtain ⟨hP, hD⟩ := va_join (wr := [(a9, .inl (k9, 1, .inr (.inl ov)))]) (w1 := (wX a k (nI wn) (nI mn) (nI u.1) fk fa sl1 ks1 ct1 sm1 le1 gr1)) hP hD [0, 1, 2, 3, 4, 5, 6, 7, 8] [9] rfl rfl (by decide) (by decide) hk1 hFc hP1 hD1
    have hP := hP.sub (ws' := ((wX a k (nI wn) (nI mn) (nI u.1) fk fa sl1 ks1 ct1 sm1 le1 gr1) ++ [(a9, .inl (k9, 1, .inr (.inl ov)))])) [1, 2, 3, 4, 5, 6, 7, 8, 9, 0] rfl
    have hD := hD.sub (ws' := ((wX a k (nI wn) (nI mn) (nI u.1) fk fa sl1 ks1 ct1 sm1 le1 gr1) ++ [(a9, .inl (k9, 1, .inr (.inl ov)))])) [1, 2, 3, 4, 5, 6, 7, 8, 9, 0] (by decide) rfl
    have hP : va_P (dC, dI) classes ((wX a k (nI wn) (nI mn) (nI u.1) fk fa sl1 ks1 ct1 sm1 le1 gr1) ++ [(a9, .inl (k9, 1, .inr (.inl ov)))]) H1 := hP
    have hD : va_D A ((wX a k (nI wn) (nI mn) (nI u.1) fk fa sl1 ks1 ct1 sm1 le1 gr1) ++ [(a9, .inl (k9, 1, .inr (.inl ov)))]) := hD
    refine W.cs (cells' := 1) (slots' := 6) rfl rfl ?_
    subst hval
    show W p l e _ s m _ below meth c H1 locs 1 6 _ (F0 m 7 ls [.int (nI u.1), .int (nI 0), .ref a9])
    refine lv_i2l (v := (nI u.1).toInt64) hx hb dL_roll_7 rfl ?_
    refine gi_last hx hb hK hP hD hS 9 8 rfl rfl (k := 0) (by omega) (by decide) dL_roll_8 (fun H locs hP hD hS => ?_)
    have hP : va_P (dC, dI) classes ((wX a k (nI wn) (nI mn) (nI u.1) fk fa sl1 ks1 ct1 sm1 le1 gr1) ++ [(a9, .inl (k9, 1, .inr (.inl (vp_updL ov 0 ((nI u.1).toInt64)))))]) H := hP
    have hD : va_D A ((wX a k (nI wn) (nI mn) (nI u.1) fk fa sl1 ks1 ct1 sm1 le1 gr1) ++ [(a9, .inl (k9, 1, .inr (.inl (vp_updL ov 0 ((nI u.1).toInt64)))))]) := hD
    refine lv_goto (tgt := 15) hx hb dL_roll_9 (by decide) ?_
    refine lv_iconst (v := 0) hx hb dL_roll_15 (by decide) ?_
    exact W.iret (v := 0) hx hb hr (fun t9 ht9 hW9 => ⟨⟨0, u, rfl, (if_pos hLg).symm, ⟨fun _ => ⟨hroll, ⟨σ1, sl1, ks1, ct1, sm1, le1, gr1, hσr1, by rw [ht9]; exact hP, va_K.moved hW9.alike hK, hD⟩⟩, fun h9 => absurd hLg h9⟩⟩, hS.F ht9⟩) hS.2.2 dL_roll_16
set_option maxHeartbeats 4000000 in
set_option maxRecDepth 100000 in
/-- the law's keyAt -/
theorem c_LkeyAt (l : Launch) (hnt : l.stackTraces = false) (dC : Nat → ClassId) (dI : Nat → Nat → Nat) (a : Nat → Nat) (k : Nat → ClassId) (wn mn : Nat) (fk : Nat → Int32) (fa : Nat → Int64) (T : TB) (σ : Nat → Nat) (sl ks : Nat → Int32) (ct sm le gr : Nat → Int64) (hσ : perm σ sl) (hrep : repT σ wn mn T ks ct sm le gr) (a9 : Nat) (k9 : ClassId) (ov : Nat → Int64) (pl i : Int32) (sz : Nat) : Met l yL_keyAt (Cond.codeWith yL_keyAt bL_keyAt 5 (some .int) [(0, 10, 13, 13)] :: wAll) { frames := 7, cells := 1, slots := 6, locals := 192 } (va_Pc [.ref (a 0), .int pl, .int i, .ref a9] (fun U => U.heap.size = sz ∧ va_P (dC, dI) classes ((wX a k (nI wn) (nI mn) (nI T.1) fk fa sl ks ct sm le gr) ++ [(a9, .inl (k9, 1, .inr (.inl ov)))]) U.heap ∧ va_K (dC, dI) classes ((kX k) ++ [(k9, .long)]) U ∧ va_D (fun _ => True) ((wX a k (nI wn) (nI mn) (nI T.1) fk fa sl ks ct sm le gr) ++ [(a9, .inl (k9, 1, .inr (.inl ov)))]) ∧ thrE (va_A ((wX a k (nI wn) (nI mn) (nI T.1) fk fa sl ks ct sm le gr) ++ [(a9, .inl (k9, 1, .inr (.inl ov)))]) sz) U U.heap)) (va_Qi (fun (r9 : Int32) (_ : Unit) => r9 = if (0 ≤ pl ∧ pl < nI T.1) ∧ 0 ≤ i ∧ i < nI wn then 0 else 1) (fun (_ : Unit) (t9 : State) => (((0 ≤ pl ∧ pl < nI T.1) ∧ 0 ≤ i ∧ i < nI wn) → atXO dC dI (va_A ((wX a k (nI wn) (nI mn) (nI T.1) fk fa sl ks ct sm le gr) ++ [(a9, .inl (k9, 1, .inr (.inl ov)))]) sz) a k a9 k9 wn mn fk fa T (vp_updL ov 0 (T.2.1 pl.toNatClampNeg i.toNatClampNeg).toInt64) t9) ∧ (¬ ((0 ≤ pl ∧ pl < nI T.1) ∧ 0 ≤ i ∧ i < nI wn) → atXO dC dI (va_A ((wX a k (nI wn) (nI mn) (nI T.1) fk fa sl ks ct sm le gr) ++ [(a9, .inl (k9, 1, .inr (.inl ov)))]) sz) a k a9 k9 wn mn fk fa T ov t9)) (va_A ((wX a k (nI wn) (nI mn) (nI T.1) fk fa sl ks ct sm le gr) ++ [(a9, .inl (k9, 1, .inr (.inl ov)))]) sz)) 1 6 (va_A ((wX a k (nI wn) (nI mn) (nI T.1) fk fa sl ks ct sm le gr) ++ [(a9, .inl (k9, 1, .inr (.inl ov)))]) sz) := by
  refine va_MetW (cc := bL_keyAt) (maxL := 5) (ret := (some .int)) (hh := [(0, 10, 13, 13)]) (by decide) rfl ?_
  intro p e s m args below meth c s₁ B hml hv
  obtain ⟨rfl, hsz, hP, hK, hD0, hT⟩ := hv
  have hx := B.exec
  have hb := B.bytes
  have hr := B.returns
  have hta : ∀ w ∈ wAll, w.before ([.ref (a 0), .int pl, .int i, .ref a9] : List Value).toArray s = true := fun w h => atoms_spec (ws := (Cond.codeWith yL_keyAt bL_keyAt 5 (some .int) [(0, 10, 13, 13)] :: wAll)) B.pre w (List.mem_cons_of_mem _ h)
  have hown : s.vm.findClass "GroupRowsLaw" = some m.cls := findClass_of_methodNamed B.named
  have hlocks := B.notSynchronized
  subst hsz
  have hD := hD0.self (sz := s.heap.size)
  generalize hAe : va_A ((wX a k (nI wn) (nI mn) (nI T.1) fk fa sl ks ct sm le gr) ++ [(a9, .inl (k9, 1, .inr (.inl ov)))]) s.heap.size = A at hD hT ⊢
  have hA : ∀ q : Nat, s.heap.size ≤ q → A q := fun q h => by rw [← hAe]; exact Or.inr h
  have hS : va_S A s.heap s.heap [] := va_S.rf
  have hP : va_P (dC, dI) classes ((wX a k (nI wn) (nI mn) (nI T.1) fk fa sl ks ct sm le gr) ++ [(a9, .inl (k9, 1, .inr (.inl ov)))]) s.heap := hP
  have hl := lv_entry ([.ref (a 0), .int pl, .int i, .ref a9]) (n := 5) (Nat.le_of_ble_eq_true rfl)
  rw [lg_entry_eq]
  generalize (lg_sl ([.ref (a 0), .int pl, .int i, .ref a9]) ++ List.replicate (5 - (lg_sl ([.ref (a 0), .int pl, .int i, .ref a9])).length) Slot.unset).toArray = ls at hl ⊢
  have hl : lv_has ls 5 [(0, .ref (a 0)), (1, .int pl), (2, .int i), (3, .ref a9)] := hl
  have htab : c.exceptionTable.toList = tableOf [(0, 10, 13, 13)] := vx_table (x := yL_keyAt) B (atoms_spec (ws := (Cond.codeWith yL_keyAt bL_keyAt 5 (some .int) [(0, 10, 13, 13)] :: wAll)) B.pre _ List.mem_cons_self)
  refine lv_aload_n hx hb dL_keyAt_0 rfl (lv_at hl 3 rfl) ?_
  refine lv_iconst (v := 0) hx hb dL_keyAt_1 (by decide) ?_
  refine gi_as (y := nI 0) (nI_0.symm) ?_
  refine lv_aload_n hx hb dL_keyAt_2 rfl (lv_at hl 0 rfl) ?_
  refine lv_iload_n hx hb dL_keyAt_3 rfl (lv_at hl 1 rfl) ?_
  refine lv_iload_n hx hb dL_keyAt_4 rfl (lv_at hl 2 rfl) ?_
  have hPc := hP.sub (ws' := (wX a k (nI wn) (nI mn) (nI T.1) fk fa sl ks ct sm le gr)) [0, 1, 2, 3, 4, 5, 6, 7, 8] rfl
  have hDc := hD.sub (ws' := (wX a k (nI wn) (nI mn) (nI T.1) fk fa sl ks ct sm le gr)) [0, 1, 2, 3, 4, 5, 6, 7, 8] (by decide) rfl
  have hKc := hK.sub (tys' := kX k) [0, 1, 2, 3, 4, 5, 6, 7] rfl
  have hFc := va_free (wc := (wX a k (nI wn) (nI mn) (nI T.1) fk fa sl ks ct sm le gr)) hD hS hA [0, 1, 2, 3, 4, 5, 6, 7, 8] rfl
  refine vx_calli (vx_runV (As := [.int pl, .int i]) (rest := [.int (nI 0), .ref a9]) ⟨hx, hb, hml, hown, hta⟩ (c_keyAt l hnt dC dI a k wn mn fk fa T σ sl ks ct sm le gr hσ hrep pl i s.heap.size) (cwV 2 hta (gV w248 w249 w250 w1 w251) rfl rfl rfl (by decide +kernel) ⟨Nat.le_of_ble_eq_true rfl, Nat.le_of_ble_eq_true rfl⟩) ⟨gb_X, va_recv hKc hPc (ci := 0) (q0 := 0) rfl rfl, fun U hU hW => ⟨rfl, by rw [hU], by rw [hU]; exact hPc, va_K.moved hW.alike hKc, hDc.weaken (fun _ _ _ _ => trivial), by rw [hU]; exact ((thrE.warm hW hT).kept hS.2.1).narrow hFc⟩⟩ rfl rfl hl.1 rfl (lv_room (Nat.le_of_ble_eq_true rfl)) dL_keyAt_5 ⟨Nat.le_of_ble_eq_true rfl, Nat.le_of_ble_eq_true rfl⟩) hS (fun q _ h => hFc q h) hFc (fun q _ h => hFc q h) (fun E9 ce q9 u t H1 locs ht hvm hpx hBX hz1 hk1 hS hce hcv hcl => ?_) (fun r_9 u t H1 locs ht hvm hw hB hz1 hk1 hS => ?_)
  · skip
    obtain ⟨hE, hP1, hK1, hD1⟩ := hBX
    subst hE
    rw [ht] at hP1
    obtain ⟨hP, hD⟩ := va_join (wr := [(a9, .inl (k9, 1, .inr (.inl ov)))]) (w1 := (wX a k (nI wn) (nI mn) (nI T.1) fk fa sl ks ct sm le gr)) hP hD [0, 1, 2, 3, 4, 5, 6, 7, 8] [9] rfl rfl (by decide) (by decide) hk1 hFc hP1 hD1
    have hP := hP.sub (ws' := ((wX a k (nI wn) (nI mn) (nI T.1) fk fa sl ks ct sm le gr) ++ [(a9, .inl (k9, 1, .inr (.inl ov)))])) [1, 2, 3, 4, 5, 6, 7, 8, 9, 0] rfl
    have hD := hD.sub (ws' := ((wX a k (nI wn) (nI mn) (nI T.1) fk fa sl ks ct sm le gr) ++ [(a9, .inl (k9, 1, .inr (.inl ov)))])) [1, 2, 3, 4, 5, 6, 7, 8, 9, 0] (by decide) rfl
    have hP : va_P (dC, dI) classes ((wX a k (nI wn) (nI mn) (nI T.1) fk fa sl ks ct sm le gr) ++ [(a9, .inl (k9, 1, .inr (.inl ov)))]) H1 := hP
    have hD : va_D A ((wX a k (nI wn) (nI mn) (nI T.1) fk fa sl ks ct sm le gr) ++ [(a9, .inl (k9, 1, .inr (.inl ov)))]) := hD
    refine vx_catch hown [] ⟨0, 10, 13, 13⟩ [] htab (fun z hz => nomatch hz) (by decide) (by decide) (hta _ w81) (va_Nw.use rfl hT.1.2.2.2) hce hcv hcl ?_
    refine W.cs (cells' := 1) (slots' := 6) rfl rfl ?_
    show W p l e _ s m _ below meth c H1 locs 1 6 _ (F0 m 13 ls [.ref q9])
    refine lv_astore (lv' := [(4, .ref q9), (0, .ref (a 0)), (1, .int pl), (2, .int i), (3, .ref a9)]) hx hb dL_keyAt_13 hl (by decide) rfl (fun ls hl => ?_)
    refine lv_iconst (v := 1) hx hb dL_keyAt_15 (by decide) ?_
    exact W.iret (v := 1) hx hb hr (fun t9 ht9 hW9 => ⟨⟨1, (), rfl, (if_neg hpx).symm, ⟨fun h9 => absurd h9 hpx, fun _ => ⟨σ, sl, ks, ct, sm, le, gr, ⟨hσ, hrep⟩, by rw [ht9]; exact hP, va_K.moved hW9.alike hK, hD⟩⟩⟩, hS.F ht9⟩) hS.2.2 dL_keyAt_16
  · skip
    obtain ⟨hLg, hval⟩ := hw
    obtain ⟨hP1, hK1, hD1⟩ := hB
    rw [ht] at hP1
    obtain ⟨hP, hD⟩ := va_join (wr := [(a9, .inl (k9, 1, .inr (.inl ov)))]) (w1 := (wX a k (nI wn) (nI mn) (nI T.1) fk fa sl ks ct sm le gr)) hP hD [0, 1, 2, 3, 4, 5, 6, 7, 8] [9] rfl rfl (by decide) (by decide) hk1 hFc hP1 hD1
    have hP := hP.sub (ws' := ((wX a k (nI wn) (nI mn) (nI T.1) fk fa sl ks ct sm le gr) ++ [(a9, .inl (k9, 1, .inr (.inl ov)))])) [1, 2, 3, 4, 5, 6, 7, 8, 9, 0] rfl
    have hD := hD.sub (ws' := ((wX a k (nI wn) (nI mn) (nI T.1) fk fa sl ks ct sm le gr) ++ [(a9, .inl (k9, 1, .inr (.inl ov)))])) [1, 2, 3, 4, 5, 6, 7, 8, 9, 0] (by decide) rfl
    have hP : va_P (dC, dI) classes ((wX a k (nI wn) (nI mn) (nI T.1) fk fa sl ks ct sm le gr) ++ [(a9, .inl (k9, 1, .inr (.inl ov)))]) H1 := hP
    have hD : va_D A ((wX a k (nI wn) (nI mn) (nI T.1) fk fa sl ks ct sm le gr) ++ [(a9, .inl (k9, 1, .inr (.inl ov)))]) := hD
    refine W.cs (cells' := 1) (slots' := 6) rfl rfl ?_
    subst hval
    show W p l e _ s m _ below meth c H1 locs 1 6 _ (F0 m 8 ls [.int (T.2.1 pl.toNatClampNeg i.toNatClampNeg), .int (nI 0), .ref a9])
    refine lv_i2l (v := (T.2.1 pl.toNatClampNeg i.toNatClampNeg).toInt64) hx hb dL_keyAt_8 rfl ?_
    refine gi_last hx hb hK hP hD hS 9 8 rfl rfl (k := 0) (by omega) (by decide) dL_keyAt_9 (fun H locs hP hD hS => ?_)
    have hP : va_P (dC, dI) classes ((wX a k (nI wn) (nI mn) (nI T.1) fk fa sl ks ct sm le gr) ++ [(a9, .inl (k9, 1, .inr (.inl (vp_updL ov 0 ((T.2.1 pl.toNatClampNeg i.toNatClampNeg).toInt64)))))]) H := hP
    have hD : va_D A ((wX a k (nI wn) (nI mn) (nI T.1) fk fa sl ks ct sm le gr) ++ [(a9, .inl (k9, 1, .inr (.inl (vp_updL ov 0 ((T.2.1 pl.toNatClampNeg i.toNatClampNeg).toInt64)))))]) := hD
    refine lv_goto (tgt := 17) hx hb dL_keyAt_10 (by decide) ?_
    refine lv_iconst (v := 0) hx hb dL_keyAt_17 (by decide) ?_
    exact W.iret (v := 0) hx hb hr (fun t9 ht9 hW9 => ⟨⟨0, (), rfl, (if_pos hLg).symm, ⟨fun _ => ⟨σ, sl, ks, ct, sm, le, gr, ⟨hσ, hrep⟩, by rw [ht9]; exact hP, va_K.moved hW9.alike hK, hD⟩, fun h9 => absurd hLg h9⟩⟩, hS.F ht9⟩) hS.2.2 dL_keyAt_18
set_option maxHeartbeats 4000000 in
set_option maxRecDepth 100000 in
/-- the law's count -/
theorem c_Lcount (l : Launch) (hnt : l.stackTraces = false) (dC : Nat → ClassId) (dI : Nat → Nat → Nat) (a : Nat → Nat) (k : Nat → ClassId) (wn mn : Nat) (fk : Nat → Int32) (fa : Nat → Int64) (T : TB) (σ : Nat → Nat) (sl ks : Nat → Int32) (ct sm le gr : Nat → Int64) (hσ : perm σ sl) (hrep : repT σ wn mn T ks ct sm le gr) (a9 : Nat) (k9 : ClassId) (ov : Nat → Int64) (pl : Int32) (sz : Nat) : Met l yL_count (Cond.codeWith yL_count bL_count 4 (some .int) [(0, 8, 11, 13)] :: wAll) { frames := 7, cells := 1, slots := 6, locals := 192 } (va_Pc [.ref (a 0), .int pl, .ref a9] (fun U => U.heap.size = sz ∧ va_P (dC, dI) classes ((wX a k (nI wn) (nI mn) (nI T.1) fk fa sl ks ct sm le gr) ++ [(a9, .inl (k9, 1, .inr (.inl ov)))]) U.heap ∧ va_K (dC, dI) classes ((kX k) ++ [(k9, .long)]) U ∧ va_D (fun _ => True) ((wX a k (nI wn) (nI mn) (nI T.1) fk fa sl ks ct sm le gr) ++ [(a9, .inl (k9, 1, .inr (.inl ov)))]) ∧ thrE (va_A ((wX a k (nI wn) (nI mn) (nI T.1) fk fa sl ks ct sm le gr) ++ [(a9, .inl (k9, 1, .inr (.inl ov)))]) sz) U U.heap)) (va_Qi (fun (r9 : Int32) (_ : Unit) => r9 = if 0 ≤ pl ∧ pl < nI T.1 then 0 else 1) (fun (_ : Unit) (t9 : State) => ((0 ≤ pl ∧ pl < nI T.1) → atXO dC dI (va_A ((wX a k (nI wn) (nI mn) (nI T.1) fk fa sl ks ct sm le gr) ++ [(a9, .inl (k9, 1, .inr (.inl ov)))]) sz) a k a9 k9 wn mn fk fa T (vp_updL ov 0 (T.2.2.1 pl.toNatClampNeg)) t9) ∧ (¬ (0 ≤ pl ∧ pl < nI T.1) → atXO dC dI (va_A ((wX a k (nI wn) (nI mn) (nI T.1) fk fa sl ks ct sm le gr) ++ [(a9, .inl (k9, 1, .inr (.inl ov)))]) sz) a k a9 k9 wn mn fk fa T ov t9)) (va_A ((wX a k (nI wn) (nI mn) (nI T.1) fk fa sl ks ct sm le gr) ++ [(a9, .inl (k9, 1, .inr (.inl ov)))]) sz)) 1 6 (va_A ((wX a k (nI wn) (nI mn) (nI T.1) fk fa sl ks ct sm le gr) ++ [(a9, .inl (k9, 1, .inr (.inl ov)))]) sz) := by
  refine va_MetW (cc := bL_count) (maxL := 4) (ret := (some .int)) (hh := [(0, 8, 11, 13)]) (by decide) rfl ?_
  intro p e s m args below meth c s₁ B hml hv
  obtain ⟨rfl, hsz, hP, hK, hD0, hT⟩ := hv
  have hx := B.exec
  have hb := B.bytes
  have hr := B.returns
  have hta : ∀ w ∈ wAll, w.before ([.ref (a 0), .int pl, .ref a9] : List Value).toArray s = true := fun w h => atoms_spec (ws := (Cond.codeWith yL_count bL_count 4 (some .int) [(0, 8, 11, 13)] :: wAll)) B.pre w (List.mem_cons_of_mem _ h)
  have hown : s.vm.findClass "GroupRowsLaw" = some m.cls := findClass_of_methodNamed B.named
  have hlocks := B.notSynchronized
  subst hsz
  have hD := hD0.self (sz := s.heap.size)
  generalize hAe : va_A ((wX a k (nI wn) (nI mn) (nI T.1) fk fa sl ks ct sm le gr) ++ [(a9, .inl (k9, 1, .inr (.inl ov)))]) s.heap.size = A at hD hT ⊢
  have hA : ∀ q : Nat, s.heap.size ≤ q → A q := fun q h => by rw [← hAe]; exact Or.inr h
  have hS : va_S A s.heap s.heap [] := va_S.rf
  have hP : va_P (dC, dI) classes ((wX a k (nI wn) (nI mn) (nI T.1) fk fa sl ks ct sm le gr) ++ [(a9, .inl (k9, 1, .inr (.inl ov)))]) s.heap := hP
  have hl := lv_entry ([.ref (a 0), .int pl, .ref a9]) (n := 4) (Nat.le_of_ble_eq_true rfl)
  rw [lg_entry_eq]
  generalize (lg_sl ([.ref (a 0), .int pl, .ref a9]) ++ List.replicate (4 - (lg_sl ([.ref (a 0), .int pl, .ref a9])).length) Slot.unset).toArray = ls at hl ⊢
  have hl : lv_has ls 4 [(0, .ref (a 0)), (1, .int pl), (2, .ref a9)] := hl
  have htab : c.exceptionTable.toList = tableOf [(0, 8, 11, 13)] := vx_table (x := yL_count) B (atoms_spec (ws := (Cond.codeWith yL_count bL_count 4 (some .int) [(0, 8, 11, 13)] :: wAll)) B.pre _ List.mem_cons_self)
  refine lv_aload_n hx hb dL_count_0 rfl (lv_at hl 2 rfl) ?_
  refine lv_iconst (v := 0) hx hb dL_count_1 (by decide) ?_
  refine gi_as (y := nI 0) (nI_0.symm) ?_
  refine lv_aload_n hx hb dL_count_2 rfl (lv_at hl 0 rfl) ?_
  refine lv_iload_n hx hb dL_count_3 rfl (lv_at hl 1 rfl) ?_
  have hPc := hP.sub (ws' := (wX a k (nI wn) (nI mn) (nI T.1) fk fa sl ks ct sm le gr)) [0, 1, 2, 3, 4, 5, 6, 7, 8] rfl
  have hDc := hD.sub (ws' := (wX a k (nI wn) (nI mn) (nI T.1) fk fa sl ks ct sm le gr)) [0, 1, 2, 3, 4, 5, 6, 7, 8] (by decide) rfl
  have hKc := hK.sub (tys' := kX k) [0, 1, 2, 3, 4, 5, 6, 7] rfl
  have hFc := va_free (wc := (wX a k (nI wn) (nI mn) (nI T.1) fk fa sl ks ct sm le gr)) hD hS hA [0, 1, 2, 3, 4, 5, 6, 7, 8] rfl
  refine vx_calll (vx_runV (As := [.int pl]) (rest := [.int (nI 0), .ref a9]) ⟨hx, hb, hml, hown, hta⟩ (c_count l hnt dC dI a k wn mn fk fa T σ sl ks ct sm le gr hσ hrep pl s.heap.size) (cwV 1 hta (gV w260 w261 w262 w1 w263) rfl rfl rfl (by decide +kernel) ⟨Nat.le_of_ble_eq_true rfl, Nat.le_of_ble_eq_true rfl⟩) ⟨gb_X, va_recv hKc hPc (ci := 0) (q0 := 0) rfl rfl, fun U hU hW => ⟨rfl, by rw [hU], by rw [hU]; exact hPc, va_K.moved hW.alike hKc, hDc.weaken (fun _ _ _ _ => trivial), by rw [hU]; exact ((thrE.warm hW hT).kept hS.2.1).narrow hFc⟩⟩ rfl rfl hl.1 rfl (lv_room (Nat.le_of_ble_eq_true rfl)) dL_count_4 ⟨Nat.le_of_ble_eq_true rfl, Nat.le_of_ble_eq_true rfl⟩) hS (fun q _ h => hFc q h) hFc (fun q _ h => hFc q h) (fun E9 ce q9 u t H1 locs ht hvm hpx hBX hz1 hk1 hS hce hcv hcl => ?_) (fun r_9 u t H1 locs ht hvm hw hB hz1 hk1 hS => ?_)
  · skip
    obtain ⟨hE, hP1, hK1, hD1⟩ := hBX
    subst hE
    rw [ht] at hP1
    obtain ⟨hP, hD⟩ := va_join (wr := [(a9, .inl (k9, 1, .inr (.inl ov)))]) (w1 := (wX a k (nI wn) (nI mn) (nI T.1) fk fa sl ks ct sm le gr)) hP hD [0, 1, 2, 3, 4, 5, 6, 7, 8] [9] rfl rfl (by decide) (by decide) hk1 hFc hP1 hD1
    have hP := hP.sub (ws' := ((wX a k (nI wn) (nI mn) (nI T.1) fk fa sl ks ct sm le gr) ++ [(a9, .inl (k9, 1, .inr (.inl ov)))])) [1, 2, 3, 4, 5, 6, 7, 8, 9, 0] rfl
    have hD := hD.sub (ws' := ((wX a k (nI wn) (nI mn) (nI T.1) fk fa sl ks ct sm le gr) ++ [(a9, .inl (k9, 1, .inr (.inl ov)))])) [1, 2, 3, 4, 5, 6, 7, 8, 9, 0] (by decide) rfl
    have hP : va_P (dC, dI) classes ((wX a k (nI wn) (nI mn) (nI T.1) fk fa sl ks ct sm le gr) ++ [(a9, .inl (k9, 1, .inr (.inl ov)))]) H1 := hP
    have hD : va_D A ((wX a k (nI wn) (nI mn) (nI T.1) fk fa sl ks ct sm le gr) ++ [(a9, .inl (k9, 1, .inr (.inl ov)))]) := hD
    refine vx_catch hown [] ⟨0, 8, 11, 13⟩ [] htab (fun z hz => nomatch hz) (by decide) (by decide) (hta _ w81) (va_Nw.use rfl hT.1.2.2.2) hce hcv hcl ?_
    refine W.cs (cells' := 1) (slots' := 6) rfl rfl ?_
    show W p l e _ s m _ below meth c H1 locs 1 6 _ (F0 m 11 ls [.ref q9])
    refine lv_astore_n (lv' := [(3, .ref q9), (0, .ref (a 0)), (1, .int pl), (2, .ref a9)]) hx hb dL_count_11 rfl hl (by decide) rfl (fun ls hl => ?_)
    refine lv_iconst (v := 1) hx hb dL_count_12 (by decide) ?_
    exact W.iret (v := 1) hx hb hr (fun t9 ht9 hW9 => ⟨⟨1, (), rfl, (if_neg hpx).symm, ⟨fun h9 => absurd h9 hpx, fun _ => ⟨σ, sl, ks, ct, sm, le, gr, ⟨hσ, hrep⟩, by rw [ht9]; exact hP, va_K.moved hW9.alike hK, hD⟩⟩⟩, hS.F ht9⟩) hS.2.2 dL_count_13
  · skip
    obtain ⟨hLg, hval⟩ := hw
    obtain ⟨hP1, hK1, hD1⟩ := hB
    rw [ht] at hP1
    obtain ⟨hP, hD⟩ := va_join (wr := [(a9, .inl (k9, 1, .inr (.inl ov)))]) (w1 := (wX a k (nI wn) (nI mn) (nI T.1) fk fa sl ks ct sm le gr)) hP hD [0, 1, 2, 3, 4, 5, 6, 7, 8] [9] rfl rfl (by decide) (by decide) hk1 hFc hP1 hD1
    have hP := hP.sub (ws' := ((wX a k (nI wn) (nI mn) (nI T.1) fk fa sl ks ct sm le gr) ++ [(a9, .inl (k9, 1, .inr (.inl ov)))])) [1, 2, 3, 4, 5, 6, 7, 8, 9, 0] rfl
    have hD := hD.sub (ws' := ((wX a k (nI wn) (nI mn) (nI T.1) fk fa sl ks ct sm le gr) ++ [(a9, .inl (k9, 1, .inr (.inl ov)))])) [1, 2, 3, 4, 5, 6, 7, 8, 9, 0] (by decide) rfl
    have hP : va_P (dC, dI) classes ((wX a k (nI wn) (nI mn) (nI T.1) fk fa sl ks ct sm le gr) ++ [(a9, .inl (k9, 1, .inr (.inl ov)))]) H1 := hP
    have hD : va_D A ((wX a k (nI wn) (nI mn) (nI T.1) fk fa sl ks ct sm le gr) ++ [(a9, .inl (k9, 1, .inr (.inl ov)))]) := hD
    refine W.cs (cells' := 1) (slots' := 6) rfl rfl ?_
    subst hval
    show W p l e _ s m _ below meth c H1 locs 1 6 _ (F0 m 7 ls [.long (T.2.2.1 pl.toNatClampNeg), .int (nI 0), .ref a9])
    refine gi_last hx hb hK hP hD hS 9 8 rfl rfl (k := 0) (by omega) (by decide) dL_count_7 (fun H locs hP hD hS => ?_)
    have hP : va_P (dC, dI) classes ((wX a k (nI wn) (nI mn) (nI T.1) fk fa sl ks ct sm le gr) ++ [(a9, .inl (k9, 1, .inr (.inl (vp_updL ov 0 (T.2.2.1 pl.toNatClampNeg)))))]) H := hP
    have hD : va_D A ((wX a k (nI wn) (nI mn) (nI T.1) fk fa sl ks ct sm le gr) ++ [(a9, .inl (k9, 1, .inr (.inl (vp_updL ov 0 (T.2.2.1 pl.toNatClampNeg)))))]) := hD
    refine lv_goto (tgt := 14) hx hb dL_count_8 (by decide) ?_
    refine lv_iconst (v := 0) hx hb dL_count_14 (by decide) ?_
    exact W.iret (v := 0) hx hb hr (fun t9 ht9 hW9 => ⟨⟨0, (), rfl, (if_pos hLg).symm, ⟨fun _ => ⟨σ, sl, ks, ct, sm, le, gr, ⟨hσ, hrep⟩, by rw [ht9]; exact hP, va_K.moved hW9.alike hK, hD⟩, fun h9 => absurd hLg h9⟩⟩, hS.F ht9⟩) hS.2.2 dL_count_15
set_option maxHeartbeats 4000000 in
set_option maxRecDepth 100000 in
/-- the law's told -/
theorem c_Ltold (l : Launch) (hnt : l.stackTraces = false) (dC : Nat → ClassId) (dI : Nat → Nat → Nat) (a : Nat → Nat) (k : Nat → ClassId) (wn mn : Nat) (fk : Nat → Int32) (fa : Nat → Int64) (T : TB) (σ : Nat → Nat) (sl ks : Nat → Int32) (ct sm le gr : Nat → Int64) (hσ : perm σ sl) (hrep : repT σ wn mn T ks ct sm le gr) (a9 : Nat) (k9 : ClassId) (ov : Nat → Int64) (pl m0 wh : Int32) (sz : Nat) : Met l yL_told (Cond.codeWith yL_told bL_told 6 (some .int) [(0, 11, 14, 13)] :: wAll) { frames := 7, cells := 1, slots := 6, locals := 192 } (va_Pc [.ref (a 0), .int pl, .int m0, .int wh, .ref a9] (fun U => U.heap.size = sz ∧ va_P (dC, dI) classes ((wX a k (nI wn) (nI mn) (nI T.1) fk fa sl ks ct sm le gr) ++ [(a9, .inl (k9, 1, .inr (.inl ov)))]) U.heap ∧ va_K (dC, dI) classes ((kX k) ++ [(k9, .long)]) U ∧ va_D (fun _ => True) ((wX a k (nI wn) (nI mn) (nI T.1) fk fa sl ks ct sm le gr) ++ [(a9, .inl (k9, 1, .inr (.inl ov)))]) ∧ thrE (va_A ((wX a k (nI wn) (nI mn) (nI T.1) fk fa sl ks ct sm le gr) ++ [(a9, .inl (k9, 1, .inr (.inl ov)))]) sz) U U.heap)) (va_Qi (fun (r9 : Int32) (_ : Unit) => r9 = if (0 ≤ pl ∧ pl < nI T.1) ∧ (0 ≤ m0 ∧ m0 < nI mn) ∧ 0 ≤ wh ∧ wh ≤ 2 then 0 else 1) (fun (_ : Unit) (t9 : State) => (((0 ≤ pl ∧ pl < nI T.1) ∧ (0 ≤ m0 ∧ m0 < nI mn) ∧ 0 ≤ wh ∧ wh ≤ 2) → atXO dC dI (va_A ((wX a k (nI wn) (nI mn) (nI T.1) fk fa sl ks ct sm le gr) ++ [(a9, .inl (k9, 1, .inr (.inl ov)))]) sz) a k a9 k9 wn mn fk fa T (vp_updL ov 0 (if wh = 0 then T.2.2.2.1 pl.toNatClampNeg m0.toNatClampNeg else if wh = 1 then T.2.2.2.2.1 pl.toNatClampNeg m0.toNatClampNeg else T.2.2.2.2.2 pl.toNatClampNeg m0.toNatClampNeg)) t9) ∧ (¬ ((0 ≤ pl ∧ pl < nI T.1) ∧ (0 ≤ m0 ∧ m0 < nI mn) ∧ 0 ≤ wh ∧ wh ≤ 2) → atXO dC dI (va_A ((wX a k (nI wn) (nI mn) (nI T.1) fk fa sl ks ct sm le gr) ++ [(a9, .inl (k9, 1, .inr (.inl ov)))]) sz) a k a9 k9 wn mn fk fa T ov t9)) (va_A ((wX a k (nI wn) (nI mn) (nI T.1) fk fa sl ks ct sm le gr) ++ [(a9, .inl (k9, 1, .inr (.inl ov)))]) sz)) 1 6 (va_A ((wX a k (nI wn) (nI mn) (nI T.1) fk fa sl ks ct sm le gr) ++ [(a9, .inl (k9, 1, .inr (.inl ov)))]) sz) := by
  refine va_MetW (cc := bL_told) (maxL := 6) (ret := (some .int)) (hh := [(0, 11, 14, 13)]) (by decide) rfl ?_
  intro p e s m args below meth c s₁ B hml hv
  obtain ⟨rfl, hsz, hP, hK, hD0, hT⟩ := hv
  have hx := B.exec
  have hb := B.bytes
  have hr := B.returns
  have hta : ∀ w ∈ wAll, w.before ([.ref (a 0), .int pl, .int m0, .int wh, .ref a9] : List Value).toArray s = true := fun w h => atoms_spec (ws := (Cond.codeWith yL_told bL_told 6 (some .int) [(0, 11, 14, 13)] :: wAll)) B.pre w (List.mem_cons_of_mem _ h)
  have hown : s.vm.findClass "GroupRowsLaw" = some m.cls := findClass_of_methodNamed B.named
  have hlocks := B.notSynchronized
  subst hsz
  have hD := hD0.self (sz := s.heap.size)
  generalize hAe : va_A ((wX a k (nI wn) (nI mn) (nI T.1) fk fa sl ks ct sm le gr) ++ [(a9, .inl (k9, 1, .inr (.inl ov)))]) s.heap.size = A at hD hT ⊢
  have hA : ∀ q : Nat, s.heap.size ≤ q → A q := fun q h => by rw [← hAe]; exact Or.inr h
  have hS : va_S A s.heap s.heap [] := va_S.rf
  have hP : va_P (dC, dI) classes ((wX a k (nI wn) (nI mn) (nI T.1) fk fa sl ks ct sm le gr) ++ [(a9, .inl (k9, 1, .inr (.inl ov)))]) s.heap := hP
  have hl := lv_entry ([.ref (a 0), .int pl, .int m0, .int wh, .ref a9]) (n := 6) (Nat.le_of_ble_eq_true rfl)
  rw [lg_entry_eq]
  generalize (lg_sl ([.ref (a 0), .int pl, .int m0, .int wh, .ref a9]) ++ List.replicate (6 - (lg_sl ([.ref (a 0), .int pl, .int m0, .int wh, .ref a9])).length) Slot.unset).toArray = ls at hl ⊢
  have hl : lv_has ls 6 [(0, .ref (a 0)), (1, .int pl), (2, .int m0), (3, .int wh), (4, .ref a9)] := hl
  have htab : c.exceptionTable.toList = tableOf [(0, 11, 14, 13)] := vx_table (x := yL_told) B (atoms_spec (ws := (Cond.codeWith yL_told bL_told 6 (some .int) [(0, 11, 14, 13)] :: wAll)) B.pre _ List.mem_cons_self)
  refine lv_aload hx hb dL_told_0 (lv_at hl 4 rfl) ?_
  refine lv_iconst (v := 0) hx hb dL_told_2 (by decide) ?_
  refine gi_as (y := nI 0) (nI_0.symm) ?_
  refine lv_aload_n hx hb dL_told_3 rfl (lv_at hl 0 rfl) ?_
  refine lv_iload_n hx hb dL_told_4 rfl (lv_at hl 1 rfl) ?_
  refine lv_iload_n hx hb dL_told_5 rfl (lv_at hl 2 rfl) ?_
  refine lv_iload_n hx hb dL_told_6 rfl (lv_at hl 3 rfl) ?_
  have hPc := hP.sub (ws' := (wX a k (nI wn) (nI mn) (nI T.1) fk fa sl ks ct sm le gr)) [0, 1, 2, 3, 4, 5, 6, 7, 8] rfl
  have hDc := hD.sub (ws' := (wX a k (nI wn) (nI mn) (nI T.1) fk fa sl ks ct sm le gr)) [0, 1, 2, 3, 4, 5, 6, 7, 8] (by decide) rfl
  have hKc := hK.sub (tys' := kX k) [0, 1, 2, 3, 4, 5, 6, 7] rfl
  have hFc := va_free (wc := (wX a k (nI wn) (nI mn) (nI T.1) fk fa sl ks ct sm le gr)) hD hS hA [0, 1, 2, 3, 4, 5, 6, 7, 8] rfl
  refine vx_calll (vx_runV (As := [.int pl, .int m0, .int wh]) (rest := [.int (nI 0), .ref a9]) ⟨hx, hb, hml, hown, hta⟩ (c_told l hnt dC dI a k wn mn fk fa T σ sl ks ct sm le gr hσ hrep pl m0 wh s.heap.size) (cwV 3 hta (gV w267 w268 w269 w1 w270) rfl rfl rfl (by decide +kernel) ⟨Nat.le_of_ble_eq_true rfl, Nat.le_of_ble_eq_true rfl⟩) ⟨gb_X, va_recv hKc hPc (ci := 0) (q0 := 0) rfl rfl, fun U hU hW => ⟨rfl, by rw [hU], by rw [hU]; exact hPc, va_K.moved hW.alike hKc, hDc.weaken (fun _ _ _ _ => trivial), by rw [hU]; exact ((thrE.warm hW hT).kept hS.2.1).narrow hFc⟩⟩ rfl rfl hl.1 rfl (lv_room (Nat.le_of_ble_eq_true rfl)) dL_told_7 ⟨Nat.le_of_ble_eq_true rfl, Nat.le_of_ble_eq_true rfl⟩) hS (fun q _ h => hFc q h) hFc (fun q _ h => hFc q h) (fun E9 ce q9 u t H1 locs ht hvm hpx hBX hz1 hk1 hS hce hcv hcl => ?_) (fun r_9 u t H1 locs ht hvm hw hB hz1 hk1 hS => ?_)
  · skip
    obtain ⟨hE, hP1, hK1, hD1⟩ := hBX
    subst hE
    rw [ht] at hP1
    obtain ⟨hP, hD⟩ := va_join (wr := [(a9, .inl (k9, 1, .inr (.inl ov)))]) (w1 := (wX a k (nI wn) (nI mn) (nI T.1) fk fa sl ks ct sm le gr)) hP hD [0, 1, 2, 3, 4, 5, 6, 7, 8] [9] rfl rfl (by decide) (by decide) hk1 hFc hP1 hD1
    have hP := hP.sub (ws' := ((wX a k (nI wn) (nI mn) (nI T.1) fk fa sl ks ct sm le gr) ++ [(a9, .inl (k9, 1, .inr (.inl ov)))])) [1, 2, 3, 4, 5, 6, 7, 8, 9, 0] rfl
    have hD := hD.sub (ws' := ((wX a k (nI wn) (nI mn) (nI T.1) fk fa sl ks ct sm le gr) ++ [(a9, .inl (k9, 1, .inr (.inl ov)))])) [1, 2, 3, 4, 5, 6, 7, 8, 9, 0] (by decide) rfl
    have hP : va_P (dC, dI) classes ((wX a k (nI wn) (nI mn) (nI T.1) fk fa sl ks ct sm le gr) ++ [(a9, .inl (k9, 1, .inr (.inl ov)))]) H1 := hP
    have hD : va_D A ((wX a k (nI wn) (nI mn) (nI T.1) fk fa sl ks ct sm le gr) ++ [(a9, .inl (k9, 1, .inr (.inl ov)))]) := hD
    refine vx_catch hown [] ⟨0, 11, 14, 13⟩ [] htab (fun z hz => nomatch hz) (by decide) (by decide) (hta _ w81) (va_Nw.use rfl hT.1.2.2.2) hce hcv hcl ?_
    refine W.cs (cells' := 1) (slots' := 6) rfl rfl ?_
    show W p l e _ s m _ below meth c H1 locs 1 6 _ (F0 m 14 ls [.ref q9])
    refine lv_astore (lv' := [(5, .ref q9), (0, .ref (a 0)), (1, .int pl), (2, .int m0), (3, .int wh), (4, .ref a9)]) hx hb dL_told_14 hl (by decide) rfl (fun ls hl => ?_)
    refine lv_iconst (v := 1) hx hb dL_told_16 (by decide) ?_
    exact W.iret (v := 1) hx hb hr (fun t9 ht9 hW9 => ⟨⟨1, (), rfl, (if_neg hpx).symm, ⟨fun h9 => absurd h9 hpx, fun _ => ⟨σ, sl, ks, ct, sm, le, gr, ⟨hσ, hrep⟩, by rw [ht9]; exact hP, va_K.moved hW9.alike hK, hD⟩⟩⟩, hS.F ht9⟩) hS.2.2 dL_told_17
  · skip
    obtain ⟨hLg, hval⟩ := hw
    obtain ⟨hP1, hK1, hD1⟩ := hB
    rw [ht] at hP1
    obtain ⟨hP, hD⟩ := va_join (wr := [(a9, .inl (k9, 1, .inr (.inl ov)))]) (w1 := (wX a k (nI wn) (nI mn) (nI T.1) fk fa sl ks ct sm le gr)) hP hD [0, 1, 2, 3, 4, 5, 6, 7, 8] [9] rfl rfl (by decide) (by decide) hk1 hFc hP1 hD1
    have hP := hP.sub (ws' := ((wX a k (nI wn) (nI mn) (nI T.1) fk fa sl ks ct sm le gr) ++ [(a9, .inl (k9, 1, .inr (.inl ov)))])) [1, 2, 3, 4, 5, 6, 7, 8, 9, 0] rfl
    have hD := hD.sub (ws' := ((wX a k (nI wn) (nI mn) (nI T.1) fk fa sl ks ct sm le gr) ++ [(a9, .inl (k9, 1, .inr (.inl ov)))])) [1, 2, 3, 4, 5, 6, 7, 8, 9, 0] (by decide) rfl
    have hP : va_P (dC, dI) classes ((wX a k (nI wn) (nI mn) (nI T.1) fk fa sl ks ct sm le gr) ++ [(a9, .inl (k9, 1, .inr (.inl ov)))]) H1 := hP
    have hD : va_D A ((wX a k (nI wn) (nI mn) (nI T.1) fk fa sl ks ct sm le gr) ++ [(a9, .inl (k9, 1, .inr (.inl ov)))]) := hD
    refine W.cs (cells' := 1) (slots' := 6) rfl rfl ?_
    subst hval
    show W p l e _ s m _ below meth c H1 locs 1 6 _ (F0 m 10 ls [.long (if wh = 0 then T.2.2.2.1 pl.toNatClampNeg m0.toNatClampNeg else if wh = 1 then T.2.2.2.2.1 pl.toNatClampNeg m0.toNatClampNeg else T.2.2.2.2.2 pl.toNatClampNeg m0.toNatClampNeg), .int (nI 0), .ref a9])
    refine gi_last hx hb hK hP hD hS 9 8 rfl rfl (k := 0) (by omega) (by decide) dL_told_10 (fun H locs hP hD hS => ?_)
    have hP : va_P (dC, dI) classes ((wX a k (nI wn) (nI mn) (nI T.1) fk fa sl ks ct sm le gr) ++ [(a9, .inl (k9, 1, .inr (.inl (vp_updL ov 0 (if wh = 0 then T.2.2.2.1 pl.toNatClampNeg m0.toNatClampNeg else if wh = 1 then T.2.2.2.2.1 pl.toNatClampNeg m0.toNatClampNeg else T.2.2.2.2.2 pl.toNatClampNeg m0.toNatClampNeg)))))]) H := hP
    have hD : va_D A ((wX a k (nI wn) (nI mn) (nI T.1) fk fa sl ks ct sm le gr) ++ [(a9, .inl (k9, 1, .inr (.inl (vp_updL ov 0 (if wh = 0 then T.2.2.2.1 pl.toNatClampNeg m0.toNatClampNeg else if wh = 1 then T.2.2.2.2.1 pl.toNatClampNeg m0.toNatClampNeg else T.2.2.2.2.2 pl.toNatClampNeg m0.toNatClampNeg)))))]) := hD
    refine lv_goto (tgt := 18) hx hb dL_told_11 (by decide) ?_
    refine lv_iconst (v := 0) hx hb dL_told_18 (by decide) ?_
    exact W.iret (v := 0) hx hb hr (fun t9 ht9 hW9 => ⟨⟨0, (), rfl, (if_pos hLg).symm, ⟨fun _ => ⟨σ, sl, ks, ct, sm, le, gr, ⟨hσ, hrep⟩, by rw [ht9]; exact hP, va_K.moved hW9.alike hK, hD⟩, fun h9 => absurd hLg h9⟩⟩, hS.F ht9⟩) hS.2.2 dL_told_19
