set_option maxHeartbeats 4000000 in
set_option maxRecDepth 100000 in
/-- Arrays.fill -/
theorem c_JA_fillI (l : Launch) (dC : Nat → ClassId) (dI : Nat → Nat → Nat) (x0 : Nat) (kx : ClassId) (f : Nat → Int32) (v : Int32) (sz : Nat)  : Met l yJA_fillI (Cond.code yJA_fillI bJA_fillI 4 none :: wAll) rm0 (va_Pc [.ref x0, .int v] (fun U => U.heap.size = sz ∧ va_P (dC, dI) classes [(x0, .inl (kx, 8, .inl f))] U.heap ∧ va_K (dC, dI) classes [(kx, .int)] U ∧ va_D (fun _ => True) [(x0, .inl (kx, 8, .inl f))])) (va_Qv (fun _ : Unit => True) (fun (_ : Unit) (t9 : State) => va_P (dC, dI) classes [(x0, .inl (kx, 8, .inl (upToI (fun _ _ => v) 0 f 8)))] t9.heap ∧ va_K (dC, dI) classes [(kx, .int)] t9 ∧ va_D (va_A [(x0, .inl (kx, 8, .inl f))] sz) [(x0, .inl (kx, 8, .inl (upToI (fun _ _ => v) 0 f 8)))]) (va_A [(x0, .inl (kx, 8, .inl f))] sz)) 0 0 (va_A [(x0, .inl (kx, 8, .inl f))] sz) := by
  refine va_MetF (cc := bJA_fillI) (maxL := 4) (ret := none) (by decide) rfl ?_
  intro p e s m args below meth c s₁ B hml hv
  obtain ⟨rfl, hsz, hP, hK, hD0⟩ := hv
  have hx := B.exec
  have hb := B.bytes
  have hr := B.returns
  have hta : ∀ w ∈ wAll, w.before ([.ref x0, .int v] : List Value).toArray s = true := fun w h => atoms_spec (ws := (Cond.code yJA_fillI bJA_fillI 4 none :: wAll)) B.pre w (List.mem_cons_of_mem _ h)
  have hown : s.vm.findClass "java/util/Arrays" = some m.cls := findClass_of_methodNamed B.named
  have hlocks := B.notSynchronized
  subst hsz
  have hD := hD0.self (sz := s.heap.size)
  generalize hAe : va_A [(x0, .inl (kx, 8, .inl f))] s.heap.size = A at hD ⊢
  have hA : ∀ q : Nat, s.heap.size ≤ q → A q := fun q h => by rw [← hAe]; exact Or.inr h
  have hS : va_S A s.heap s.heap [] := va_S.rf
  have hP : va_P (dC, dI) classes [(x0, .inl (kx, 8, .inl f))] s.heap := hP
  have hl := lv_entry ([.ref x0, .int v]) (n := 4) (Nat.le_of_ble_eq_true rfl)
  rw [lg_entry_eq]
  generalize (lg_sl ([.ref x0, .int v]) ++ List.replicate (4 - (lg_sl ([.ref x0, .int v])).length) Slot.unset).toArray = ls at hl ⊢
  have hl : lv_has ls 4 [(0, .ref x0), (1, .int v)] := hl
  refine lv_iconst (v := 0) hx hb dJA_fillI_0 (by decide) ?_
  refine gi_as (y := nI 0) (nI_0.symm) ?_
  refine lv_istore_n (lv' := [(2, .int (nI 0)), (0, .ref x0), (1, .int v)]) hx hb dJA_fillI_1 rfl hl (by decide) rfl (fun ls hl => ?_)
  refine lv_aload_n hx hb dJA_fillI_2 rfl (lv_at hl 1 rfl) ?_
  refine va_alen (v := nI 8) hx hb hK hP 0 0 rfl rfl rfl dJA_fillI_3 ?_
  refine lv_istore_n (lv' := [(3, .int (nI 8)), (2, .int (nI 0)), (0, .ref x0), (1, .int v)]) hx hb dJA_fillI_4 rfl hl (by decide) rfl (fun ls hl => ?_)
  have loop : ∀ (kk j : Nat), j + kk = 8 → ∀ (H : Heap) (locs : List Loc), va_P (dC, dI) classes [(x0, .inl (kx, 8, .inl (upToI (fun _ _ => v) 0 f j)))] H → va_D A [(x0, .inl (kx, 8, .inl (upToI (fun _ _ => v) 0 f j)))] → va_S A s.heap H locs → ∀ (ls : Array Slot), lv_has ls 4 [(2, .int (nI j)), (3, .int (nI 8)), (0, .ref x0), (1, .int v)] → W p l e (headSpec (Cond.code yJA_fillI bJA_fillI 4 none :: wAll) rm0).room s m ([.ref x0, .int v] : List Value).toArray below meth c H locs 0 0 (MQ below (va_Qv (fun _ : Unit => True) (fun (_ : Unit) (t9 : State) => va_P (dC, dI) classes [(x0, .inl (kx, 8, .inl (upToI (fun _ _ => v) 0 f 8)))] t9.heap ∧ va_K (dC, dI) classes [(kx, .int)] t9 ∧ va_D A [(x0, .inl (kx, 8, .inl (upToI (fun _ _ => v) 0 f 8)))]) A) ([.ref x0, .int v] : List Value).toArray s 0 0 A) (F0 m 5 ls []) := by
    intro kk
    induction kk with
    | zero =>
      intro j hj H locs hP hD hS ls hl
      refine lv_iload_n hx hb dJA_fillI_5 rfl (lv_at hl 0 rfl) ?_
      refine lv_iload_n hx hb dJA_fillI_6 rfl (lv_at hl 1 rfl) ?_
      refine lv_icmp_ge (tgt := 20) hx hb dJA_fillI_7 (by decide) (fun h1 => ?_) (fun h1 => ?_)
      · skip
        have hj : 8 = j := by omega
        subst hj
        have hP : va_P (dC, dI) classes [(x0, .inl (kx, 8, .inl (upToI (fun _ _ => v) 0 f 8)))] H := hP
        have hD : va_D A [(x0, .inl (kx, 8, .inl (upToI (fun _ _ => v) 0 f 8)))] := hD
        exact W.vret hx hb hr (fun t9 ht9 hW9 => ⟨⟨(), rfl, trivial, by rw [ht9]; exact hP, va_K.moved hW9.alike hK, hD⟩, hS.F ht9⟩) hS.2.2 dJA_fillI_20
      · skip
        exact absurd (nI_le (by omega) (by omega)) h1
    | succ kk ih =>
      intro j hj H locs hP hD hS ls hl
      refine lv_iload_n hx hb dJA_fillI_5 rfl (lv_at hl 0 rfl) ?_
      refine lv_iload_n hx hb dJA_fillI_6 rfl (lv_at hl 1 rfl) ?_
      refine lv_icmp_ge (tgt := 20) hx hb dJA_fillI_7 (by decide) (fun h1 => ?_) (fun h1 => ?_)
      · skip
        exact absurd h1 (nI_ge (a := j) (by omega) (by omega))
      · skip
        have e0 : j = 0 + j := by omega
        refine lv_aload_n hx hb dJA_fillI_10 rfl (lv_at hl 2 rfl) ?_
        refine lv_iload_n hx hb dJA_fillI_11 rfl (lv_at hl 0 rfl) ?_
        refine gi_as (y := nI (0 + j)) (by rw [← e0]) ?_
        refine lv_iload_n hx hb dJA_fillI_12 rfl (lv_at hl 3 rfl) ?_
        refine gi_iast hx hb hK hP hD hS 0 0 rfl rfl (k := (0 + j)) (by omega) (by decide) dJA_fillI_13 (fun H locs hP hD hS => ?_)
        have hP : va_P (dC, dI) classes [(x0, .inl (kx, 8, .inl (upd (upToI (fun _ _ => v) 0 f j) (0 + j) v)))] H := hP
        have hD : va_D A [(x0, .inl (kx, 8, .inl (upd (upToI (fun _ _ => v) 0 f j) (0 + j) v)))] := hD
        refine lv_iinc (v := (nI (j + 1))) (lv' := [(2, .int (nI (j + 1))), (3, .int (nI 8)), (0, .ref x0), (1, .int v)]) hx hb dJA_fillI_14 hl (k := 0) rfl (nI_1 _) (by decide) rfl (fun ls hl => ?_)
        refine lv_goto (tgt := 5) hx hb dJA_fillI_17 (by decide) ?_
        have hl := lv_sub hl [0, 1, 2, 3] rfl
        have hl : lv_has ls 4 [(2, .int (nI (j + 1))), (3, .int (nI 8)), (0, .ref x0), (1, .int v)] := hl
        exact ih (j + 1) (by omega) H locs hP hD hS ls hl
  have hl := lv_sub hl [1, 0, 2, 3] rfl
  have hl : lv_has ls 4 [(2, .int (nI 0)), (3, .int (nI 8)), (0, .ref x0), (1, .int v)] := hl
  exact loop 8 0 (by omega) s.heap [] hP hD hS ls hl
set_option maxHeartbeats 4000000 in
set_option maxRecDepth 100000 in
/-- Arrays.fill -/
theorem c_JA_fillJ (l : Launch) (dC : Nat → ClassId) (dI : Nat → Nat → Nat) (x0 : Nat) (kx : ClassId) (f : Nat → Int64) (v : Int64) (sz : Nat)  : Met l yJA_fillJ (Cond.code yJA_fillJ bJA_fillJ 5 none :: wAll) rm0 (va_Pc [.ref x0, .long v] (fun U => U.heap.size = sz ∧ va_P (dC, dI) classes [(x0, .inl (kx, 8, .inr (.inl f)))] U.heap ∧ va_K (dC, dI) classes [(kx, .long)] U ∧ va_D (fun _ => True) [(x0, .inl (kx, 8, .inr (.inl f)))])) (va_Qv (fun _ : Unit => True) (fun (_ : Unit) (t9 : State) => va_P (dC, dI) classes [(x0, .inl (kx, 8, .inr (.inl (upTo (fun _ _ => v) 0 f 8))))] t9.heap ∧ va_K (dC, dI) classes [(kx, .long)] t9 ∧ va_D (va_A [(x0, .inl (kx, 8, .inr (.inl f)))] sz) [(x0, .inl (kx, 8, .inr (.inl (upTo (fun _ _ => v) 0 f 8))))]) (va_A [(x0, .inl (kx, 8, .inr (.inl f)))] sz)) 0 0 (va_A [(x0, .inl (kx, 8, .inr (.inl f)))] sz) := by
  refine va_MetF (cc := bJA_fillJ) (maxL := 5) (ret := none) (by decide) rfl ?_
  intro p e s m args below meth c s₁ B hml hv
  obtain ⟨rfl, hsz, hP, hK, hD0⟩ := hv
  have hx := B.exec
  have hb := B.bytes
  have hr := B.returns
  have hta : ∀ w ∈ wAll, w.before ([.ref x0, .long v] : List Value).toArray s = true := fun w h => atoms_spec (ws := (Cond.code yJA_fillJ bJA_fillJ 5 none :: wAll)) B.pre w (List.mem_cons_of_mem _ h)
  have hown : s.vm.findClass "java/util/Arrays" = some m.cls := findClass_of_methodNamed B.named
  have hlocks := B.notSynchronized
  subst hsz
  have hD := hD0.self (sz := s.heap.size)
  generalize hAe : va_A [(x0, .inl (kx, 8, .inr (.inl f)))] s.heap.size = A at hD ⊢
  have hA : ∀ q : Nat, s.heap.size ≤ q → A q := fun q h => by rw [← hAe]; exact Or.inr h
  have hS : va_S A s.heap s.heap [] := va_S.rf
  have hP : va_P (dC, dI) classes [(x0, .inl (kx, 8, .inr (.inl f)))] s.heap := hP
  have hl := lv_entry ([.ref x0, .long v]) (n := 5) (Nat.le_of_ble_eq_true rfl)
  rw [lg_entry_eq]
  generalize (lg_sl ([.ref x0, .long v]) ++ List.replicate (5 - (lg_sl ([.ref x0, .long v])).length) Slot.unset).toArray = ls at hl ⊢
  have hl : lv_has ls 5 [(0, .ref x0), (1, .long v)] := hl
  refine lv_iconst (v := 0) hx hb dJA_fillJ_0 (by decide) ?_
  refine gi_as (y := nI 0) (nI_0.symm) ?_
  refine lv_istore_n (lv' := [(3, .int (nI 0)), (0, .ref x0), (1, .long v)]) hx hb dJA_fillJ_1 rfl hl (by decide) rfl (fun ls hl => ?_)
  refine lv_aload_n hx hb dJA_fillJ_2 rfl (lv_at hl 1 rfl) ?_
  refine va_alen (v := nI 8) hx hb hK hP 0 0 rfl rfl rfl dJA_fillJ_3 ?_
  refine lv_istore (lv' := [(4, .int (nI 8)), (3, .int (nI 0)), (0, .ref x0), (1, .long v)]) hx hb dJA_fillJ_4 hl (by decide) rfl (fun ls hl => ?_)
  have loop : ∀ (kk j : Nat), j + kk = 8 → ∀ (H : Heap) (locs : List Loc), va_P (dC, dI) classes [(x0, .inl (kx, 8, .inr (.inl (upTo (fun _ _ => v) 0 f j))))] H → va_D A [(x0, .inl (kx, 8, .inr (.inl (upTo (fun _ _ => v) 0 f j))))] → va_S A s.heap H locs → ∀ (ls : Array Slot), lv_has ls 5 [(3, .int (nI j)), (4, .int (nI 8)), (0, .ref x0), (1, .long v)] → W p l e (headSpec (Cond.code yJA_fillJ bJA_fillJ 5 none :: wAll) rm0).room s m ([.ref x0, .long v] : List Value).toArray below meth c H locs 0 0 (MQ below (va_Qv (fun _ : Unit => True) (fun (_ : Unit) (t9 : State) => va_P (dC, dI) classes [(x0, .inl (kx, 8, .inr (.inl (upTo (fun _ _ => v) 0 f 8))))] t9.heap ∧ va_K (dC, dI) classes [(kx, .long)] t9 ∧ va_D A [(x0, .inl (kx, 8, .inr (.inl (upTo (fun _ _ => v) 0 f 8))))]) A) ([.ref x0, .long v] : List Value).toArray s 0 0 A) (F0 m 6 ls []) := by
    intro kk
    induction kk with
    | zero =>
      intro j hj H locs hP hD hS ls hl
      refine lv_iload_n hx hb dJA_fillJ_6 rfl (lv_at hl 0 rfl) ?_
      refine lv_iload hx hb dJA_fillJ_7 (lv_at hl 1 rfl) ?_
      refine lv_icmp_ge (tgt := 22) hx hb dJA_fillJ_9 (by decide) (fun h1 => ?_) (fun h1 => ?_)
      · skip
        have hj : 8 = j := by omega
        subst hj
        have hP : va_P (dC, dI) classes [(x0, .inl (kx, 8, .inr (.inl (upTo (fun _ _ => v) 0 f 8))))] H := hP
        have hD : va_D A [(x0, .inl (kx, 8, .inr (.inl (upTo (fun _ _ => v) 0 f 8))))] := hD
        exact W.vret hx hb hr (fun t9 ht9 hW9 => ⟨⟨(), rfl, trivial, by rw [ht9]; exact hP, va_K.moved hW9.alike hK, hD⟩, hS.F ht9⟩) hS.2.2 dJA_fillJ_22
      · skip
        exact absurd (nI_le (by omega) (by omega)) h1
    | succ kk ih =>
      intro j hj H locs hP hD hS ls hl
      refine lv_iload_n hx hb dJA_fillJ_6 rfl (lv_at hl 0 rfl) ?_
      refine lv_iload hx hb dJA_fillJ_7 (lv_at hl 1 rfl) ?_
      refine lv_icmp_ge (tgt := 22) hx hb dJA_fillJ_9 (by decide) (fun h1 => ?_) (fun h1 => ?_)
      · skip
        exact absurd h1 (nI_ge (a := j) (by omega) (by omega))
      · skip
        have e0 : j = 0 + j := by omega
        refine lv_aload_n hx hb dJA_fillJ_12 rfl (lv_at hl 2 rfl) ?_
        refine lv_iload_n hx hb dJA_fillJ_13 rfl (lv_at hl 0 rfl) ?_
        refine gi_as (y := nI (0 + j)) (by rw [← e0]) ?_
        refine lv_lload_n hx hb dJA_fillJ_14 rfl (lv_at hl 3 rfl) ?_
        refine gi_last hx hb hK hP hD hS 0 0 rfl rfl (k := (0 + j)) (by omega) (by decide) dJA_fillJ_15 (fun H locs hP hD hS => ?_)
        have hP : va_P (dC, dI) classes [(x0, .inl (kx, 8, .inr (.inl (vp_updL (upTo (fun _ _ => v) 0 f j) (0 + j) v))))] H := hP
        have hD : va_D A [(x0, .inl (kx, 8, .inr (.inl (vp_updL (upTo (fun _ _ => v) 0 f j) (0 + j) v))))] := hD
        refine lv_iinc (v := (nI (j + 1))) (lv' := [(3, .int (nI (j + 1))), (4, .int (nI 8)), (0, .ref x0), (1, .long v)]) hx hb dJA_fillJ_16 hl (k := 0) rfl (nI_1 _) (by decide) rfl (fun ls hl => ?_)
        refine lv_goto (tgt := 6) hx hb dJA_fillJ_19 (by decide) ?_
        have hl := lv_sub hl [0, 1, 2, 3] rfl
        have hl : lv_has ls 5 [(3, .int (nI (j + 1))), (4, .int (nI 8)), (0, .ref x0), (1, .long v)] := hl
        exact ih (j + 1) (by omega) H locs hP hD hS ls hl
  have hl := lv_sub hl [1, 0, 2, 3] rfl
  have hl : lv_has ls 5 [(3, .int (nI 0)), (4, .int (nI 8)), (0, .ref x0), (1, .long v)] := hl
  exact loop 8 0 (by omega) s.heap [] hP hD hS ls hl
set_option maxHeartbeats 4000000 in
set_option maxRecDepth 100000 in
/-- begin -/
theorem c_begin (l : Launch) (hnt : l.stackTraces = false) (dC : Nat → ClassId) (dI : Nat → Nat → Nat) (a : Nat → Nat) (k : Nat → ClassId) (wn mn : Nat) (fk : Nat → Int32) (fa : Nat → Int64) (T : TB) (σ : Nat → Nat) (sl ks : Nat → Int32) (ct sm le gr : Nat → Int64) (hσ : perm σ sl) (hrep : repT σ wn mn T ks ct sm le gr) (w0 m0 : Int32) (sz : Nat) : vx_Met l yX_begin (Cond.code yX_begin bX_begin 3 none :: wAll) { frames := 6, cells := 1, slots := 6, locals := 160 } (va_Pc [.ref (a 0), .int w0, .int m0] (fun U => U.heap.size = sz ∧ va_P (dC, dI) classes (wX a k (nI wn) (nI mn) (nI T.1) fk fa sl ks ct sm le gr) U.heap ∧ va_K (dC, dI) classes (kX k) U ∧ va_D (fun _ => True) (wX a k (nI wn) (nI mn) (nI T.1) fk fa sl ks ct sm le gr) ∧ thrE (va_A (wX a k (nI wn) (nI mn) (nI T.1) fk fa sl ks ct sm le gr) sz) U U.heap)) (va_Qv (fun _ : Unit => ((0 ≤ w0 ∧ w0 ≤ 8) ∧ 1 ≤ m0 ∧ m0 ≤ 8) ∧ True) (fun (_ : Unit) (t9 : State) => atX dC dI (va_A (wX a k (nI wn) (nI mn) (nI T.1) fk fa sl ks ct sm le gr) sz) a k w0.toNatClampNeg m0.toNatClampNeg (upToI (fun _ _ => 0) 0 fk 8) (upTo (fun _ _ => 0) 0 fa 8) (0, T.2) t9) (va_A (wX a k (nI wn) (nI mn) (nI T.1) fk fa sl ks ct sm le gr) sz)) (vx_X (fun _ : Unit => ¬ ((0 ≤ w0 ∧ w0 ≤ 8) ∧ 1 ≤ m0 ∧ m0 ≤ 8)) (fun (E9 : String) (_ : Unit) (t9 : State) => E9 = "java/lang/IllegalArgumentException" ∧ va_P (dC, dI) classes (wX a k (nI wn) (nI mn) (nI T.1) fk fa sl ks ct sm le gr) t9.heap ∧ va_K (dC, dI) classes (kX k) t9 ∧ va_D (va_A (wX a k (nI wn) (nI mn) (nI T.1) fk fa sl ks ct sm le gr) sz) (wX a k (nI wn) (nI mn) (nI T.1) fk fa sl ks ct sm le gr)) (va_A (wX a k (nI wn) (nI mn) (nI T.1) fk fa sl ks ct sm le gr) sz)) 1 6 (va_A (wX a k (nI wn) (nI mn) (nI T.1) fk fa sl ks ct sm le gr) sz) := by
  refine vx_ofW (cc := bX_begin) (maxL := 3) (ret := none) (by decide) rfl ?_
  intro p e s m args below meth c s₁ B hml hno hv
  obtain ⟨rfl, hsz, hP, hK, hD0, hT⟩ := hv
  have hx := B.exec
  have hb := B.bytes
  have hr := B.returns
  have hta : ∀ w ∈ wAll, w.before ([.ref (a 0), .int w0, .int m0] : List Value).toArray s = true := fun w h => atoms_spec (ws := (Cond.code yX_begin bX_begin 3 none :: wAll)) B.pre w (List.mem_cons_of_mem _ h)
  have hown : s.vm.findClass "GroupRows" = some m.cls := findClass_of_methodNamed B.named
  have hlocks := B.notSynchronized
  subst hsz
  have hD := hD0.self (sz := s.heap.size)
  generalize hAe : va_A (wX a k (nI wn) (nI mn) (nI T.1) fk fa sl ks ct sm le gr) s.heap.size = A at hD hT ⊢
  have hA : ∀ q : Nat, s.heap.size ≤ q → A q := fun q h => by rw [← hAe]; exact Or.inr h
  have hS : va_S A s.heap s.heap [] := va_S.rf
  have hP : va_P (dC, dI) classes (wX a k (nI wn) (nI mn) (nI T.1) fk fa sl ks ct sm le gr) s.heap := hP
  have hl := lv_entry ([.ref (a 0), .int w0, .int m0]) (n := 3) (Nat.le_of_ble_eq_true rfl)
  rw [lg_entry_eq]
  generalize (lg_sl ([.ref (a 0), .int w0, .int m0]) ++ List.replicate (3 - (lg_sl ([.ref (a 0), .int w0, .int m0])).length) Slot.unset).toArray = ls at hl ⊢
  have hl : lv_has ls 3 [(0, .ref (a 0)), (1, .int w0), (2, .int m0)] := hl
  obtain ⟨⟨hwn, hmn1, hmn, hn⟩, hk9, hc9, hv9, hs9⟩ := id hrep
  refine lv_iload_n hx hb dX_begin_0 rfl (lv_at hl 1 rfl) ?_
  refine lv_if_lt (tgt := 10) hx hb dX_begin_1 (by decide) (fun h1 => ?_) (fun h1 => ?_)
  · skip
    exact gx_throw (is := 47) (text := "width is not 0 .. 8") hx hb hnt hown hta hT hS (hl.1.trans hml.symm) (by decide) dX_begin_10 dX_begin_13 dX_begin_14 dX_begin_16 dX_begin_19 hno (Nat.le_of_ble_eq_true rfl) (Nat.le_of_ble_eq_true rfl) (Nat.le_of_ble_eq_true rfl) (Nat.le_of_ble_eq_true rfl) hlocks (fun t9 hv9 hz9 hk9 => ⟨(), fun q => absurd q.1.1 (Int32.not_le.mpr h1), ⟨rfl, gx_P hP hk9, va_K.moved hv9 hK, hD⟩, gx_F hS hz9 hk9⟩) hS.2.2 (Nat.le_of_ble_eq_true rfl) (Nat.le_of_ble_eq_true rfl)
  · skip
    refine lv_iload_n hx hb dX_begin_4 rfl (lv_at hl 1 rfl) ?_
    refine lv_bipush (v := 8) hx hb dX_begin_5 (by decide) ?_
    refine lv_icmp_le (tgt := 20) hx hb dX_begin_7 (by decide) (fun h2 => ?_) (fun h2 => ?_)
    · skip
      refine lv_iload_n hx hb dX_begin_20 rfl (lv_at hl 2 rfl) ?_
      refine lv_iconst (v := 1) hx hb dX_begin_21 (by decide) ?_
      refine lv_icmp_lt (tgt := 31) hx hb dX_begin_22 (by decide) (fun h3 => ?_) (fun h3 => ?_)
      · skip
        exact gx_throw (is := 52) (text := "measures is not 1 .. 8") hx hb hnt hown hta hT hS (hl.1.trans hml.symm) (by decide) dX_begin_31 dX_begin_34 dX_begin_35 dX_begin_37 dX_begin_40 hno (Nat.le_of_ble_eq_true rfl) (Nat.le_of_ble_eq_true rfl) (Nat.le_of_ble_eq_true rfl) (Nat.le_of_ble_eq_true rfl) hlocks (fun t9 hv9 hz9 hk9 => ⟨(), fun q => absurd q.2.1 (Int32.not_le.mpr h3), ⟨rfl, gx_P hP hk9, va_K.moved hv9 hK, hD⟩, gx_F hS hz9 hk9⟩) hS.2.2 (Nat.le_of_ble_eq_true rfl) (Nat.le_of_ble_eq_true rfl)
      · skip
        refine lv_iload_n hx hb dX_begin_25 rfl (lv_at hl 2 rfl) ?_
        refine lv_bipush (v := 8) hx hb dX_begin_26 (by decide) ?_
        refine lv_icmp_le (tgt := 41) hx hb dX_begin_28 (by decide) (fun h4 => ?_) (fun h4 => ?_)
        · skip
          have hL : (0 ≤ w0 ∧ w0 ≤ 8) ∧ 1 ≤ m0 ∧ m0 ≤ 8 := ⟨⟨Int32.not_lt.mp h1, h2⟩, Int32.not_lt.mp h3, h4⟩
          obtain ⟨j, hj, ej, cj⟩ := in_le (n := 8) (by decide) hL.1
          obtain ⟨j2, hj2, ej2, cj2⟩ := in_le (n := 8) (by decide) ⟨i32_0le1 hL.2.1, hL.2.2⟩
          subst ej
          subst ej2
          have hj1 : 1 ≤ j2 := nI_1le (by omega) hL.2.1
          refine lv_aload_n hx hb dX_begin_41 rfl (lv_at hl 0 rfl) ?_
          refine lv_iload_n hx hb dX_begin_42 rfl (lv_at hl 1 rfl) ?_
          refine va_put (D := (dC, dI)) (ci := 0) (v := .int (nI j)) (ty := .int) (C := "GroupRows") (T := FX) (N := 11) hx hb hta inX tX tXok nX hown hK hP hD hS 0 rfl rfl 0 (by decide) (hta _ w19) (fun _ h9 => h9) rfl (by decide +kernel) rfl rfl (Nat.le_of_ble_eq_true rfl) dX_begin_43 (fun H locs hP hD hS => ?_)
          have hP : va_P (dC, dI) classes (wX a k (nI j) (nI mn) (nI T.1) fk fa sl ks ct sm le gr) H := hP
          have hD : va_D A (wX a k (nI j) (nI mn) (nI T.1) fk fa sl ks ct sm le gr) := hD
          refine lv_aload_n hx hb dX_begin_46 rfl (lv_at hl 0 rfl) ?_
          refine lv_iload_n hx hb dX_begin_47 rfl (lv_at hl 2 rfl) ?_
          refine va_put (D := (dC, dI)) (ci := 0) (v := .int (nI j2)) (ty := .int) (C := "GroupRows") (T := FX) (N := 11) hx hb hta inX tX tXok nX hown hK hP hD hS 0 rfl rfl 1 (by decide) (hta _ w20) (fun _ h9 => h9) rfl (by decide +kernel) rfl rfl (Nat.le_of_ble_eq_true rfl) dX_begin_48 (fun H locs hP hD hS => ?_)
          have hP : va_P (dC, dI) classes (wX a k (nI j) (nI j2) (nI T.1) fk fa sl ks ct sm le gr) H := hP
          have hD : va_D A (wX a k (nI j) (nI j2) (nI T.1) fk fa sl ks ct sm le gr) := hD
          refine lv_aload_n hx hb dX_begin_51 rfl (lv_at hl 0 rfl) ?_
          refine lv_iconst (v := 0) hx hb dX_begin_52 (by decide) ?_
          refine gi_as (y := nI 0) (nI_0.symm) ?_
          refine va_put (D := (dC, dI)) (ci := 0) (v := .int (nI 0)) (ty := .int) (C := "GroupRows") (T := FX) (N := 11) hx hb hta inX tX tXok nX hown hK hP hD hS 0 rfl rfl 2 (by decide) (hta _ w21) (fun _ h9 => h9) rfl (by decide +kernel) rfl rfl (Nat.le_of_ble_eq_true rfl) dX_begin_53 (fun H locs hP hD hS => ?_)
          have hP : va_P (dC, dI) classes (wX a k (nI j) (nI j2) (nI 0) fk fa sl ks ct sm le gr) H := hP
          have hD : va_D A (wX a k (nI j) (nI j2) (nI 0) fk fa sl ks ct sm le gr) := hD
          refine lv_aload_n hx hb dX_begin_56 rfl (lv_at hl 0 rfl) ?_
          refine va_get (D := (dC, dI)) (ci := 0) (v := .ref (a 1)) (C := "GroupRows") (T := FX) (N := 11) hx hb hta inX hown hK hP 0 rfl rfl 3 (by decide) (hta _ w22) (fun _ h9 => h9) rfl dX_begin_57 ?_
          refine lv_iconst (v := 0) hx hb dX_begin_60 (by decide) ?_
          have hPc := hP.sub (ws' := [(a 1, .inl (k 1, 8, .inl fk))]) [1] rfl
          have hDc := hD.sub (ws' := [(a 1, .inl (k 1, 8, .inl fk))]) [1] (by decide) rfl
          have hKc := hK.sub (tys' := [(k 1, .int)]) [0] rfl
          have hFc := va_free (wc := [(a 1, .inl (k 1, 8, .inl fk))]) hD hS hA [1] rfl
          refine va_callv (va_runS (As := [.ref (a 1), .int 0]) (rest := []) ⟨hx, hb, hml, hown, hta⟩ (c_JA_fillI l dC dI (a 1) (k 1) fk 0 H.size) (va_cwS 2 hta (gS w153 w154 w7 w155) rfl rfl rfl (by decide +kernel) ⟨Nat.le_of_ble_eq_true rfl, Nat.le_of_ble_eq_true rfl⟩) ⟨gb_W, fun U hU hW => ⟨rfl, by rw [hU], by rw [hU]; exact hPc, va_K.moved hW.alike hKc, hDc.weaken (fun _ _ _ _ => trivial)⟩⟩ rfl rfl hl.1 rfl (lv_room (Nat.le_of_ble_eq_true rfl)) dX_begin_61 ⟨Nat.le_of_ble_eq_true rfl, Nat.le_of_ble_eq_true rfl⟩) hS (fun q _ h => hFc q h) hFc (fun u t H1 locs ht hvm hw hB hz1 hk1 hS => ?_)
          obtain ⟨hP1, hK1, hD1⟩ := hB
          rw [ht] at hP1
          obtain ⟨hP, hD⟩ := va_join (wr := [(a 0, .inr (0, [.int (nI j), .int (nI j2), .int (nI 0), .ref (a 1), .ref (a 2), .ref (a 3), .ref (a 4), .ref (a 5), .ref (a 6), .ref (a 7), .ref (a 8)])), (a 2, .inl (k 2, 8, .inr (.inl fa))), (a 3, .inl (k 3, 1000, .inl sl)), (a 4, .inl (k 4, 8000, .inl ks)), (a 5, .inl (k 5, 1000, .inr (.inl ct))), (a 6, .inl (k 6, 8000, .inr (.inl sm))), (a 7, .inl (k 7, 8000, .inr (.inl le))), (a 8, .inl (k 8, 8000, .inr (.inl gr)))]) (w1 := [(a 1, .inl (k 1, 8, .inl (upToI (fun _ _ => 0) 0 fk 8)))]) hP hD [1] [0, 2, 3, 4, 5, 6, 7, 8] rfl rfl (by decide) (by decide) hk1 hFc hP1 hD1
          generalize H1 = H at hP hS ⊢
          have hP := hP.sub (ws' := (wX a k (nI j) (nI j2) (nI 0) (upToI (fun _ _ => 0) 0 fk 8) fa sl ks ct sm le gr)) [0, 8, 1, 2, 3, 4, 5, 6, 7] rfl
          have hD := hD.sub (ws' := (wX a k (nI j) (nI j2) (nI 0) (upToI (fun _ _ => 0) 0 fk 8) fa sl ks ct sm le gr)) [0, 8, 1, 2, 3, 4, 5, 6, 7] (by decide) rfl
          have hP : va_P (dC, dI) classes (wX a k (nI j) (nI j2) (nI 0) (upToI (fun _ _ => 0) 0 fk 8) fa sl ks ct sm le gr) H := hP
          have hD : va_D A (wX a k (nI j) (nI j2) (nI 0) (upToI (fun _ _ => 0) 0 fk 8) fa sl ks ct sm le gr) := hD
          refine lv_aload_n hx hb dX_begin_64 rfl (lv_at hl 0 rfl) ?_
          refine va_get (D := (dC, dI)) (ci := 0) (v := .ref (a 2)) (C := "GroupRows") (T := FX) (N := 11) hx hb hta inX hown hK hP 0 rfl rfl 4 (by decide) (hta _ w23) (fun _ h9 => h9) rfl dX_begin_65 ?_
          refine lv_lconst (v := 0) hx hb dX_begin_68 (by decide) ?_
          have hPc := hP.sub (ws' := [(a 2, .inl (k 2, 8, .inr (.inl fa)))]) [2] rfl
          have hDc := hD.sub (ws' := [(a 2, .inl (k 2, 8, .inr (.inl fa)))]) [2] (by decide) rfl
          have hKc := hK.sub (tys' := [(k 2, .long)]) [1] rfl
          have hFc := va_free (wc := [(a 2, .inl (k 2, 8, .inr (.inl fa)))]) hD hS hA [2] rfl
          refine va_callv (va_runS (As := [.ref (a 2), .long 0]) (rest := []) ⟨hx, hb, hml, hown, hta⟩ (c_JA_fillJ l dC dI (a 2) (k 2) fa 0 H.size) (va_cwS 2 hta (gS w156 w157 w7 w158) rfl rfl rfl (by decide +kernel) ⟨Nat.le_of_ble_eq_true rfl, Nat.le_of_ble_eq_true rfl⟩) ⟨gb_W, fun U hU hW => ⟨rfl, by rw [hU], by rw [hU]; exact hPc, va_K.moved hW.alike hKc, hDc.weaken (fun _ _ _ _ => trivial)⟩⟩ rfl rfl hl.1 rfl (lv_room (Nat.le_of_ble_eq_true rfl)) dX_begin_69 ⟨Nat.le_of_ble_eq_true rfl, Nat.le_of_ble_eq_true rfl⟩) hS (fun q _ h => hFc q h) hFc (fun u t H1 locs ht hvm hw hB hz1 hk1 hS => ?_)
          obtain ⟨hP1, hK1, hD1⟩ := hB
          rw [ht] at hP1
          obtain ⟨hP, hD⟩ := va_join (wr := [(a 0, .inr (0, [.int (nI j), .int (nI j2), .int (nI 0), .ref (a 1), .ref (a 2), .ref (a 3), .ref (a 4), .ref (a 5), .ref (a 6), .ref (a 7), .ref (a 8)])), (a 1, .inl (k 1, 8, .inl (upToI (fun _ _ => 0) 0 fk 8))), (a 3, .inl (k 3, 1000, .inl sl)), (a 4, .inl (k 4, 8000, .inl ks)), (a 5, .inl (k 5, 1000, .inr (.inl ct))), (a 6, .inl (k 6, 8000, .inr (.inl sm))), (a 7, .inl (k 7, 8000, .inr (.inl le))), (a 8, .inl (k 8, 8000, .inr (.inl gr)))]) (w1 := [(a 2, .inl (k 2, 8, .inr (.inl (upTo (fun _ _ => 0) 0 fa 8))))]) hP hD [2] [0, 1, 3, 4, 5, 6, 7, 8] rfl rfl (by decide) (by decide) hk1 hFc hP1 hD1
          generalize H1 = H at hP hS ⊢
          have hP := hP.sub (ws' := (wX a k (nI j) (nI j2) (nI 0) (upToI (fun _ _ => 0) 0 fk 8) (upTo (fun _ _ => 0) 0 fa 8) sl ks ct sm le gr)) [0, 1, 8, 2, 3, 4, 5, 6, 7] rfl
          have hD := hD.sub (ws' := (wX a k (nI j) (nI j2) (nI 0) (upToI (fun _ _ => 0) 0 fk 8) (upTo (fun _ _ => 0) 0 fa 8) sl ks ct sm le gr)) [0, 1, 8, 2, 3, 4, 5, 6, 7] (by decide) rfl
          have hP : va_P (dC, dI) classes (wX a k (nI j) (nI j2) (nI 0) (upToI (fun _ _ => 0) 0 fk 8) (upTo (fun _ _ => 0) 0 fa 8) sl ks ct sm le gr) H := hP
          have hD : va_D A (wX a k (nI j) (nI j2) (nI 0) (upToI (fun _ _ => 0) 0 fk 8) (upTo (fun _ _ => 0) 0 fa 8) sl ks ct sm le gr) := hD
          have hr9 : repT σ j j2 (0, T.2) ks ct sm le gr := ⟨⟨hj, hj1, hj2, Nat.zero_le _⟩, fun p hp => absurd hp (Nat.not_lt_zero p), fun p hp => absurd hp (Nat.not_lt_zero p), fun p m hp => absurd hp (Nat.not_lt_zero p), fun p q _ h => absurd h (Nat.not_lt_zero q)⟩
          refine vx_ret ?_
          refine W.widen (k := 1) (n := 6) (Nat.zero_le _) (Nat.zero_le _) ?_
          exact W.vret hx hb hr (fun t9 ht9 hW9 => ⟨⟨(), rfl, ⟨hL, trivial⟩, by rw [cj, cj2]; exact ⟨σ, sl, ks, ct, sm, le, gr, ⟨hσ, hr9⟩, by rw [ht9]; exact hP, va_K.moved hW9.alike hK, hD⟩⟩, hS.F ht9⟩) hS.2.2 dX_begin_72
        · skip
          exact gx_throw (is := 52) (text := "measures is not 1 .. 8") hx hb hnt hown hta hT hS (hl.1.trans hml.symm) (by decide) dX_begin_31 dX_begin_34 dX_begin_35 dX_begin_37 dX_begin_40 hno (Nat.le_of_ble_eq_true rfl) (Nat.le_of_ble_eq_true rfl) (Nat.le_of_ble_eq_true rfl) (Nat.le_of_ble_eq_true rfl) hlocks (fun t9 hv9 hz9 hk9 => ⟨(), fun q => h4 q.2.2, ⟨rfl, gx_P hP hk9, va_K.moved hv9 hK, hD⟩, gx_F hS hz9 hk9⟩) hS.2.2 (Nat.le_of_ble_eq_true rfl) (Nat.le_of_ble_eq_true rfl)
    · skip
      exact gx_throw (is := 47) (text := "width is not 0 .. 8") hx hb hnt hown hta hT hS (hl.1.trans hml.symm) (by decide) dX_begin_10 dX_begin_13 dX_begin_14 dX_begin_16 dX_begin_19 hno (Nat.le_of_ble_eq_true rfl) (Nat.le_of_ble_eq_true rfl) (Nat.le_of_ble_eq_true rfl) (Nat.le_of_ble_eq_true rfl) hlocks (fun t9 hv9 hz9 hk9 => ⟨(), fun q => h2 q.1.2, ⟨rfl, gx_P hP hk9, va_K.moved hv9 hK, hD⟩, gx_F hS hz9 hk9⟩) hS.2.2 (Nat.le_of_ble_eq_true rfl) (Nat.le_of_ble_eq_true rfl)
set_option maxHeartbeats 4000000 in
set_option maxRecDepth 100000 in
/-- keyAt -/
theorem c_keyAt (l : Launch) (hnt : l.stackTraces = false) (dC : Nat → ClassId) (dI : Nat → Nat → Nat) (a : Nat → Nat) (k : Nat → ClassId) (wn mn : Nat) (fk : Nat → Int32) (fa : Nat → Int64) (T : TB) (σ : Nat → Nat) (sl ks : Nat → Int32) (ct sm le gr : Nat → Int64) (hσ : perm σ sl) (hrep : repT σ wn mn T ks ct sm le gr) (pl i : Int32) (sz : Nat) : vx_Met l yX_keyAt (Cond.code yX_keyAt bX_keyAt 3 (some .int) :: wAll) { frames := 6, cells := 1, slots := 6, locals := 160 } (va_Pc [.ref (a 0), .int pl, .int i] (fun U => U.heap.size = sz ∧ va_P (dC, dI) classes (wX a k (nI wn) (nI mn) (nI T.1) fk fa sl ks ct sm le gr) U.heap ∧ va_K (dC, dI) classes (kX k) U ∧ va_D (fun _ => True) (wX a k (nI wn) (nI mn) (nI T.1) fk fa sl ks ct sm le gr) ∧ thrE (va_A (wX a k (nI wn) (nI mn) (nI T.1) fk fa sl ks ct sm le gr) sz) U U.heap)) (va_Qi (fun (r9 : Int32) (_ : Unit) => ((0 ≤ pl ∧ pl < nI T.1) ∧ 0 ≤ i ∧ i < nI wn) ∧ r9 = (T.2.1 pl.toNatClampNeg i.toNatClampNeg)) (fun (_ : Unit) (t9 : State) => va_P (dC, dI) classes (wX a k (nI wn) (nI mn) (nI T.1) fk fa sl ks ct sm le gr) t9.heap ∧ va_K (dC, dI) classes (kX k) t9 ∧ va_D (va_A (wX a k (nI wn) (nI mn) (nI T.1) fk fa sl ks ct sm le gr) sz) (wX a k (nI wn) (nI mn) (nI T.1) fk fa sl ks ct sm le gr)) (va_A (wX a k (nI wn) (nI mn) (nI T.1) fk fa sl ks ct sm le gr) sz)) (vx_X (fun _ : Unit => ¬ ((0 ≤ pl ∧ pl < nI T.1) ∧ 0 ≤ i ∧ i < nI wn)) (fun (E9 : String) (_ : Unit) (t9 : State) => E9 = "java/lang/IllegalArgumentException" ∧ va_P (dC, dI) classes (wX a k (nI wn) (nI mn) (nI T.1) fk fa sl ks ct sm le gr) t9.heap ∧ va_K (dC, dI) classes (kX k) t9 ∧ va_D (va_A (wX a k (nI wn) (nI mn) (nI T.1) fk fa sl ks ct sm le gr) sz) (wX a k (nI wn) (nI mn) (nI T.1) fk fa sl ks ct sm le gr)) (va_A (wX a k (nI wn) (nI mn) (nI T.1) fk fa sl ks ct sm le gr) sz)) 1 6 (va_A (wX a k (nI wn) (nI mn) (nI T.1) fk fa sl ks ct sm le gr) sz) := by
  refine vx_ofW (cc := bX_keyAt) (maxL := 3) (ret := (some .int)) (by decide) rfl ?_
  intro p e s m args below meth c s₁ B hml hno hv
  obtain ⟨rfl, hsz, hP, hK, hD0, hT⟩ := hv
  have hx := B.exec
  have hb := B.bytes
  have hr := B.returns
  have hta : ∀ w ∈ wAll, w.before ([.ref (a 0), .int pl, .int i] : List Value).toArray s = true := fun w h => atoms_spec (ws := (Cond.code yX_keyAt bX_keyAt 3 (some .int) :: wAll)) B.pre w (List.mem_cons_of_mem _ h)
  have hown : s.vm.findClass "GroupRows" = some m.cls := findClass_of_methodNamed B.named
  have hlocks := B.notSynchronized
  subst hsz
  have hD := hD0.self (sz := s.heap.size)
  generalize hAe : va_A (wX a k (nI wn) (nI mn) (nI T.1) fk fa sl ks ct sm le gr) s.heap.size = A at hD hT ⊢
  have hA : ∀ q : Nat, s.heap.size ≤ q → A q := fun q h => by rw [← hAe]; exact Or.inr h
  have hS : va_S A s.heap s.heap [] := va_S.rf
  have hP : va_P (dC, dI) classes (wX a k (nI wn) (nI mn) (nI T.1) fk fa sl ks ct sm le gr) s.heap := hP
  have hl := lv_entry ([.ref (a 0), .int pl, .int i]) (n := 3) (Nat.le_of_ble_eq_true rfl)
  rw [lg_entry_eq]
  generalize (lg_sl ([.ref (a 0), .int pl, .int i]) ++ List.replicate (3 - (lg_sl ([.ref (a 0), .int pl, .int i])).length) Slot.unset).toArray = ls at hl ⊢
  have hl : lv_has ls 3 [(0, .ref (a 0)), (1, .int pl), (2, .int i)] := hl
  obtain ⟨⟨hwn, hmn1, hmn, hn⟩, hk9, hc9, hv9, hs9⟩ := id hrep
  refine lv_aload_n hx hb dX_keyAt_0 rfl (lv_at hl 0 rfl) ?_
  refine lv_iload_n hx hb dX_keyAt_1 rfl (lv_at hl 1 rfl) ?_
  refine gi_callR (v := .int (if 0 ≤ pl ∧ pl < nI T.1 then 1 else 0)) (W.runV (As := [.int pl]) (rest := []) ⟨hx, hb, hml, hown, hta⟩ (c_isPlace l dC dI a k (nI wn) (nI mn) (nI T.1) fk fa sl ks ct sm le gr pl) (cwV 1 hta (gV w252 w254 sX_isPlace w1 w255) rfl rfl rfl (by decide +kernel) ⟨Nat.le_of_ble_eq_true rfl, Nat.le_of_ble_eq_true rfl⟩) ⟨gb_R, va_recv hK hP (ci := 0) (q0 := 0) rfl rfl, fun U hU hW => ⟨rfl, by rw [hU]; exact hP, va_K.moved hW.alike hK⟩⟩ rfl rfl hl.1 rfl (lv_room (Nat.le_of_ble_eq_true rfl)) dX_keyAt_2 ⟨Nat.le_of_ble_eq_true rfl, Nat.le_of_ble_eq_true rfl⟩) ?_
  refine lv_if_ne (tgt := 18) hx hb dX_keyAt_5 (by decide) (fun h1 => ?_) (fun h1 => ?_)
  rotate_left
  · skip
    have hn9 : ¬ (0 ≤ pl ∧ pl < nI T.1) := fun q => by rw [if_pos q] at h1; exact absurd h1 (by decide)
    exact gx_throw (is := 102) (text := "there is no such row") hx hb hnt hown hta hT hS (hl.1.trans hml.symm) (by decide) dX_keyAt_8 dX_keyAt_11 dX_keyAt_12 dX_keyAt_14 dX_keyAt_17 hno (Nat.le_of_ble_eq_true rfl) (Nat.le_of_ble_eq_true rfl) (Nat.le_of_ble_eq_true rfl) (Nat.le_of_ble_eq_true rfl) hlocks (fun t9 hv9 hz9 hk9 => ⟨(), fun q => hn9 q.1, ⟨rfl, gx_P hP hk9, va_K.moved hv9 hK, hD⟩, gx_F hS hz9 hk9⟩) hS.2.2 (Nat.le_of_ble_eq_true rfl) (Nat.le_of_ble_eq_true rfl)
  · skip
    have hL1 : 0 ≤ pl ∧ pl < nI T.1 := by
      by_cases q : 0 ≤ pl ∧ pl < nI T.1
      · exact q
      · rw [if_neg q] at h1; exact absurd rfl h1
    refine lv_aload_n hx hb dX_keyAt_18 rfl (lv_at hl 0 rfl) ?_
    refine lv_iload_n hx hb dX_keyAt_19 rfl (lv_at hl 2 rfl) ?_
    refine gi_callR (v := .int (if 0 ≤ i ∧ i < nI wn then 1 else 0)) (W.runV (As := [.int i]) (rest := []) ⟨hx, hb, hml, hown, hta⟩ (c_isPart l dC dI a k (nI wn) (nI mn) (nI T.1) fk fa sl ks ct sm le gr i) (cwV 1 hta (gV w166 w168 sX_isPart w1 w169) rfl rfl rfl (by decide +kernel) ⟨Nat.le_of_ble_eq_true rfl, Nat.le_of_ble_eq_true rfl⟩) ⟨gb_R, va_recv hK hP (ci := 0) (q0 := 0) rfl rfl, fun U hU hW => ⟨rfl, by rw [hU]; exact hP, va_K.moved hW.alike hK⟩⟩ rfl rfl hl.1 rfl (lv_room (Nat.le_of_ble_eq_true rfl)) dX_keyAt_20 ⟨Nat.le_of_ble_eq_true rfl, Nat.le_of_ble_eq_true rfl⟩) ?_
    refine lv_if_ne (tgt := 36) hx hb dX_keyAt_23 (by decide) (fun h1 => ?_) (fun h1 => ?_)
    rotate_left
    · skip
      have hn9 : ¬ (0 ≤ i ∧ i < nI wn) := fun q => by rw [if_pos q] at h1; exact absurd h1 (by decide)
      exact gx_throw (is := 67) (text := "there is no such part") hx hb hnt hown hta hT hS (hl.1.trans hml.symm) (by decide) dX_keyAt_26 dX_keyAt_29 dX_keyAt_30 dX_keyAt_32 dX_keyAt_35 hno (Nat.le_of_ble_eq_true rfl) (Nat.le_of_ble_eq_true rfl) (Nat.le_of_ble_eq_true rfl) (Nat.le_of_ble_eq_true rfl) hlocks (fun t9 hv9 hz9 hk9 => ⟨(), fun q => hn9 q.2, ⟨rfl, gx_P hP hk9, va_K.moved hv9 hK, hD⟩, gx_F hS hz9 hk9⟩) hS.2.2 (Nat.le_of_ble_eq_true rfl) (Nat.le_of_ble_eq_true rfl)
    · skip
      have hL2 : 0 ≤ i ∧ i < nI wn := by
        by_cases q : 0 ≤ i ∧ i < nI wn
        · exact q
        · rw [if_neg q] at h1; exact absurd rfl h1
      obtain ⟨p0, hp0, ep, cp⟩ := in_nI (by omega) hL1
      obtain ⟨j, hj, ej, cj⟩ := in_nI (by omega) hL2
      subst ep
      subst ej
      have hσp := hσ.2.1 p0 (by omega)
      refine lv_aload_n hx hb dX_keyAt_36 rfl (lv_at hl 0 rfl) ?_
      refine va_get (D := (dC, dI)) (ci := 0) (v := .ref (a 4)) (C := "GroupRows") (T := FX) (N := 11) hx hb hta inX hown hK hP 0 rfl rfl 6 (by decide) (hta _ w25) (fun _ h9 => h9) rfl dX_keyAt_37 ?_
      refine lv_aload_n hx hb dX_keyAt_40 rfl (lv_at hl 0 rfl) ?_
      refine va_get (D := (dC, dI)) (ci := 0) (v := .ref (a 3)) (C := "GroupRows") (T := FX) (N := 11) hx hb hta inX hown hK hP 0 rfl rfl 5 (by decide) (hta _ w24) (fun _ h9 => h9) rfl dX_keyAt_41 ?_
      refine lv_iload_n hx hb dX_keyAt_44 rfl (lv_at hl 1 rfl) ?_
      refine gi_iald hx hb hK hP 3 2 rfl rfl (k := p0) (by omega) (by decide) dX_keyAt_45 ?_
      refine gi_as (y := nI (σ p0)) (hσ.1 p0 (by omega)) ?_
      refine lv_bipush (v := 8) hx hb dX_keyAt_46 (by decide) ?_
      refine lv_imul hx hb dX_keyAt_48 ?_
      refine gi_as (y := nI (8 * (σ p0))) (gi_mul8 _) ?_
      refine lv_iload_n hx hb dX_keyAt_49 rfl (lv_at hl 2 rfl) ?_
      refine lv_iadd hx hb dX_keyAt_50 ?_
      refine gi_as (y := nI ((8 * (σ p0)) + j)) (nI_add _ _) ?_
      refine gi_iald hx hb hK hP 4 3 rfl rfl (k := ((8 * (σ p0)) + j)) (by omega) (by decide) dX_keyAt_51 ?_
      refine gi_as (y := T.2.1 p0 j) (hk9 p0 hp0 j hj) ?_
      refine vx_ret ?_
      refine W.widen (k := 1) (n := 6) (Nat.zero_le _) (Nat.zero_le _) ?_
      exact W.iret (v := (T.2.1 p0 j)) hx hb hr (fun t9 ht9 hW9 => ⟨⟨(T.2.1 p0 j), (), rfl, ⟨⟨hL1, hL2⟩, by rw [cp, cj]⟩, by rw [ht9]; exact hP, va_K.moved hW9.alike hK, hD⟩, hS.F ht9⟩) hS.2.2 dX_keyAt_52
set_option maxHeartbeats 4000000 in
set_option maxRecDepth 100000 in
/-- count -/
theorem c_count (l : Launch) (hnt : l.stackTraces = false) (dC : Nat → ClassId) (dI : Nat → Nat → Nat) (a : Nat → Nat) (k : Nat → ClassId) (wn mn : Nat) (fk : Nat → Int32) (fa : Nat → Int64) (T : TB) (σ : Nat → Nat) (sl ks : Nat → Int32) (ct sm le gr : Nat → Int64) (hσ : perm σ sl) (hrep : repT σ wn mn T ks ct sm le gr) (pl : Int32) (sz : Nat) : vx_Met l yX_count (Cond.code yX_count bX_count 2 (some .long) :: wAll) { frames := 6, cells := 1, slots := 6, locals := 160 } (va_Pc [.ref (a 0), .int pl] (fun U => U.heap.size = sz ∧ va_P (dC, dI) classes (wX a k (nI wn) (nI mn) (nI T.1) fk fa sl ks ct sm le gr) U.heap ∧ va_K (dC, dI) classes (kX k) U ∧ va_D (fun _ => True) (wX a k (nI wn) (nI mn) (nI T.1) fk fa sl ks ct sm le gr) ∧ thrE (va_A (wX a k (nI wn) (nI mn) (nI T.1) fk fa sl ks ct sm le gr) sz) U U.heap)) (va_Ql (fun (r9 : Int64) (_ : Unit) => (0 ≤ pl ∧ pl < nI T.1) ∧ r9 = (T.2.2.1 pl.toNatClampNeg)) (fun (_ : Unit) (t9 : State) => va_P (dC, dI) classes (wX a k (nI wn) (nI mn) (nI T.1) fk fa sl ks ct sm le gr) t9.heap ∧ va_K (dC, dI) classes (kX k) t9 ∧ va_D (va_A (wX a k (nI wn) (nI mn) (nI T.1) fk fa sl ks ct sm le gr) sz) (wX a k (nI wn) (nI mn) (nI T.1) fk fa sl ks ct sm le gr)) (va_A (wX a k (nI wn) (nI mn) (nI T.1) fk fa sl ks ct sm le gr) sz)) (vx_X (fun _ : Unit => ¬ (0 ≤ pl ∧ pl < nI T.1)) (fun (E9 : String) (_ : Unit) (t9 : State) => E9 = "java/lang/IllegalArgumentException" ∧ va_P (dC, dI) classes (wX a k (nI wn) (nI mn) (nI T.1) fk fa sl ks ct sm le gr) t9.heap ∧ va_K (dC, dI) classes (kX k) t9 ∧ va_D (va_A (wX a k (nI wn) (nI mn) (nI T.1) fk fa sl ks ct sm le gr) sz) (wX a k (nI wn) (nI mn) (nI T.1) fk fa sl ks ct sm le gr)) (va_A (wX a k (nI wn) (nI mn) (nI T.1) fk fa sl ks ct sm le gr) sz)) 1 6 (va_A (wX a k (nI wn) (nI mn) (nI T.1) fk fa sl ks ct sm le gr) sz) := by
  refine vx_ofW (cc := bX_count) (maxL := 2) (ret := (some .long)) (by decide) rfl ?_
  intro p e s m args below meth c s₁ B hml hno hv
  obtain ⟨rfl, hsz, hP, hK, hD0, hT⟩ := hv
  have hx := B.exec
  have hb := B.bytes
  have hr := B.returns
  have hta : ∀ w ∈ wAll, w.before ([.ref (a 0), .int pl] : List Value).toArray s = true := fun w h => atoms_spec (ws := (Cond.code yX_count bX_count 2 (some .long) :: wAll)) B.pre w (List.mem_cons_of_mem _ h)
  have hown : s.vm.findClass "GroupRows" = some m.cls := findClass_of_methodNamed B.named
  have hlocks := B.notSynchronized
  subst hsz
  have hD := hD0.self (sz := s.heap.size)
  generalize hAe : va_A (wX a k (nI wn) (nI mn) (nI T.1) fk fa sl ks ct sm le gr) s.heap.size = A at hD hT ⊢
  have hA : ∀ q : Nat, s.heap.size ≤ q → A q := fun q h => by rw [← hAe]; exact Or.inr h
  have hS : va_S A s.heap s.heap [] := va_S.rf
  have hP : va_P (dC, dI) classes (wX a k (nI wn) (nI mn) (nI T.1) fk fa sl ks ct sm le gr) s.heap := hP
  have hl := lv_entry ([.ref (a 0), .int pl]) (n := 2) (Nat.le_of_ble_eq_true rfl)
  rw [lg_entry_eq]
  generalize (lg_sl ([.ref (a 0), .int pl]) ++ List.replicate (2 - (lg_sl ([.ref (a 0), .int pl])).length) Slot.unset).toArray = ls at hl ⊢
  have hl : lv_has ls 2 [(0, .ref (a 0)), (1, .int pl)] := hl
  obtain ⟨⟨hwn, hmn1, hmn, hn⟩, hk9, hc9, hv9, hs9⟩ := id hrep
  refine lv_aload_n hx hb dX_count_0 rfl (lv_at hl 0 rfl) ?_
  refine lv_iload_n hx hb dX_count_1 rfl (lv_at hl 1 rfl) ?_
  refine gi_callR (v := .int (if 0 ≤ pl ∧ pl < nI T.1 then 1 else 0)) (W.runV (As := [.int pl]) (rest := []) ⟨hx, hb, hml, hown, hta⟩ (c_isPlace l dC dI a k (nI wn) (nI mn) (nI T.1) fk fa sl ks ct sm le gr pl) (cwV 1 hta (gV w252 w254 sX_isPlace w1 w255) rfl rfl rfl (by decide +kernel) ⟨Nat.le_of_ble_eq_true rfl, Nat.le_of_ble_eq_true rfl⟩) ⟨gb_R, va_recv hK hP (ci := 0) (q0 := 0) rfl rfl, fun U hU hW => ⟨rfl, by rw [hU]; exact hP, va_K.moved hW.alike hK⟩⟩ rfl rfl hl.1 rfl (lv_room (Nat.le_of_ble_eq_true rfl)) dX_count_2 ⟨Nat.le_of_ble_eq_true rfl, Nat.le_of_ble_eq_true rfl⟩) ?_
  refine lv_if_ne (tgt := 18) hx hb dX_count_5 (by decide) (fun h1 => ?_) (fun h1 => ?_)
  rotate_left
  · skip
    have hn9 : ¬ (0 ≤ pl ∧ pl < nI T.1) := fun q => by rw [if_pos q] at h1; exact absurd h1 (by decide)
    exact gx_throw (is := 102) (text := "there is no such row") hx hb hnt hown hta hT hS (hl.1.trans hml.symm) (by decide) dX_count_8 dX_count_11 dX_count_12 dX_count_14 dX_count_17 hno (Nat.le_of_ble_eq_true rfl) (Nat.le_of_ble_eq_true rfl) (Nat.le_of_ble_eq_true rfl) (Nat.le_of_ble_eq_true rfl) hlocks (fun t9 hv9 hz9 hk9 => ⟨(), hn9, ⟨rfl, gx_P hP hk9, va_K.moved hv9 hK, hD⟩, gx_F hS hz9 hk9⟩) hS.2.2 (Nat.le_of_ble_eq_true rfl) (Nat.le_of_ble_eq_true rfl)
  · skip
    have hL1 : 0 ≤ pl ∧ pl < nI T.1 := by
      by_cases q : 0 ≤ pl ∧ pl < nI T.1
      · exact q
      · rw [if_neg q] at h1; exact absurd rfl h1
    obtain ⟨p0, hp0, ep, cp⟩ := in_nI (by omega) hL1
    subst ep
    have hσp := hσ.2.1 p0 (by omega)
    refine lv_aload_n hx hb dX_count_18 rfl (lv_at hl 0 rfl) ?_
    refine va_get (D := (dC, dI)) (ci := 0) (v := .ref (a 5)) (C := "GroupRows") (T := FX) (N := 11) hx hb hta inX hown hK hP 0 rfl rfl 7 (by decide) (hta _ w26) (fun _ h9 => h9) rfl dX_count_19 ?_
    refine lv_aload_n hx hb dX_count_22 rfl (lv_at hl 0 rfl) ?_
    refine va_get (D := (dC, dI)) (ci := 0) (v := .ref (a 3)) (C := "GroupRows") (T := FX) (N := 11) hx hb hta inX hown hK hP 0 rfl rfl 5 (by decide) (hta _ w24) (fun _ h9 => h9) rfl dX_count_23 ?_
    refine lv_iload_n hx hb dX_count_26 rfl (lv_at hl 1 rfl) ?_
    refine gi_iald hx hb hK hP 3 2 rfl rfl (k := p0) (by omega) (by decide) dX_count_27 ?_
    refine gi_as (y := nI (σ p0)) (hσ.1 p0 (by omega)) ?_
    refine gi_lald hx hb hK hP 5 4 rfl rfl (k := (σ p0)) (by omega) (by decide) dX_count_28 ?_
    refine gi_asl (y := T.2.2.1 p0) (hc9 p0 hp0) ?_
    refine vx_ret ?_
    refine W.widen (k := 1) (n := 6) (Nat.zero_le _) (Nat.zero_le _) ?_
    exact W.lret (v := (T.2.2.1 p0)) hx hb hr (fun t9 ht9 hW9 => ⟨⟨(T.2.2.1 p0), (), rfl, ⟨hL1, by rw [cp]⟩, by rw [ht9]; exact hP, va_K.moved hW9.alike hK, hD⟩, hS.F ht9⟩) hS.2.2 dX_count_29
set_option maxHeartbeats 4000000 in
set_option maxRecDepth 100000 in
/-- told -/
theorem c_told (l : Launch) (hnt : l.stackTraces = false) (dC : Nat → ClassId) (dI : Nat → Nat → Nat) (a : Nat → Nat) (k : Nat → ClassId) (wn mn : Nat) (fk : Nat → Int32) (fa : Nat → Int64) (T : TB) (σ : Nat → Nat) (sl ks : Nat → Int32) (ct sm le gr : Nat → Int64) (hσ : perm σ sl) (hrep : repT σ wn mn T ks ct sm le gr) (pl m0 wh : Int32) (sz : Nat) : vx_Met l yX_told (Cond.code yX_told bX_told 5 (some .long) :: wAll) { frames := 6, cells := 1, slots := 6, locals := 160 } (va_Pc [.ref (a 0), .int pl, .int m0, .int wh] (fun U => U.heap.size = sz ∧ va_P (dC, dI) classes (wX a k (nI wn) (nI mn) (nI T.1) fk fa sl ks ct sm le gr) U.heap ∧ va_K (dC, dI) classes (kX k) U ∧ va_D (fun _ => True) (wX a k (nI wn) (nI mn) (nI T.1) fk fa sl ks ct sm le gr) ∧ thrE (va_A (wX a k (nI wn) (nI mn) (nI T.1) fk fa sl ks ct sm le gr) sz) U U.heap)) (va_Ql (fun (r9 : Int64) (_ : Unit) => ((0 ≤ pl ∧ pl < nI T.1) ∧ (0 ≤ m0 ∧ m0 < nI mn) ∧ 0 ≤ wh ∧ wh ≤ 2) ∧ r9 = (if wh = 0 then T.2.2.2.1 pl.toNatClampNeg m0.toNatClampNeg else if wh = 1 then T.2.2.2.2.1 pl.toNatClampNeg m0.toNatClampNeg else T.2.2.2.2.2 pl.toNatClampNeg m0.toNatClampNeg)) (fun (_ : Unit) (t9 : State) => va_P (dC, dI) classes (wX a k (nI wn) (nI mn) (nI T.1) fk fa sl ks ct sm le gr) t9.heap ∧ va_K (dC, dI) classes (kX k) t9 ∧ va_D (va_A (wX a k (nI wn) (nI mn) (nI T.1) fk fa sl ks ct sm le gr) sz) (wX a k (nI wn) (nI mn) (nI T.1) fk fa sl ks ct sm le gr)) (va_A (wX a k (nI wn) (nI mn) (nI T.1) fk fa sl ks ct sm le gr) sz)) (vx_X (fun _ : Unit => ¬ ((0 ≤ pl ∧ pl < nI T.1) ∧ (0 ≤ m0 ∧ m0 < nI mn) ∧ 0 ≤ wh ∧ wh ≤ 2)) (fun (E9 : String) (_ : Unit) (t9 : State) => E9 = "java/lang/IllegalArgumentException" ∧ va_P (dC, dI) classes (wX a k (nI wn) (nI mn) (nI T.1) fk fa sl ks ct sm le gr) t9.heap ∧ va_K (dC, dI) classes (kX k) t9 ∧ va_D (va_A (wX a k (nI wn) (nI mn) (nI T.1) fk fa sl ks ct sm le gr) sz) (wX a k (nI wn) (nI mn) (nI T.1) fk fa sl ks ct sm le gr)) (va_A (wX a k (nI wn) (nI mn) (nI T.1) fk fa sl ks ct sm le gr) sz)) 1 6 (va_A (wX a k (nI wn) (nI mn) (nI T.1) fk fa sl ks ct sm le gr) sz) := by
  refine vx_ofW (cc := bX_told) (maxL := 5) (ret := (some .long)) (by decide) rfl ?_
  intro p e s m args below meth c s₁ B hml hno hv
  obtain ⟨rfl, hsz, hP, hK, hD0, hT⟩ := hv
  have hx := B.exec
  have hb := B.bytes
  have hr := B.returns
  have hta : ∀ w ∈ wAll, w.before ([.ref (a 0), .int pl, .int m0, .int wh] : List Value).toArray s = true := fun w h => atoms_spec (ws := (Cond.code yX_told bX_told 5 (some .long) :: wAll)) B.pre w (List.mem_cons_of_mem _ h)
  have hown : s.vm.findClass "GroupRows" = some m.cls := findClass_of_methodNamed B.named
  have hlocks := B.notSynchronized
  subst hsz
  have hD := hD0.self (sz := s.heap.size)
  generalize hAe : va_A (wX a k (nI wn) (nI mn) (nI T.1) fk fa sl ks ct sm le gr) s.heap.size = A at hD hT ⊢
  have hA : ∀ q : Nat, s.heap.size ≤ q → A q := fun q h => by rw [← hAe]; exact Or.inr h
  have hS : va_S A s.heap s.heap [] := va_S.rf
  have hP : va_P (dC, dI) classes (wX a k (nI wn) (nI mn) (nI T.1) fk fa sl ks ct sm le gr) s.heap := hP
  have hl := lv_entry ([.ref (a 0), .int pl, .int m0, .int wh]) (n := 5) (Nat.le_of_ble_eq_true rfl)
  rw [lg_entry_eq]
  generalize (lg_sl ([.ref (a 0), .int pl, .int m0, .int wh]) ++ List.replicate (5 - (lg_sl ([.ref (a 0), .int pl, .int m0, .int wh])).length) Slot.unset).toArray = ls at hl ⊢
  have hl : lv_has ls 5 [(0, .ref (a 0)), (1, .int pl), (2, .int m0), (3, .int wh)] := hl
  obtain ⟨⟨hwn, hmn1, hmn, hn⟩, hk9, hc9, hv9, hs9⟩ := id hrep
  refine lv_aload_n hx hb dX_told_0 rfl (lv_at hl 0 rfl) ?_
  refine lv_iload_n hx hb dX_told_1 rfl (lv_at hl 1 rfl) ?_
  refine gi_callR (v := .int (if 0 ≤ pl ∧ pl < nI T.1 then 1 else 0)) (W.runV (As := [.int pl]) (rest := []) ⟨hx, hb, hml, hown, hta⟩ (c_isPlace l dC dI a k (nI wn) (nI mn) (nI T.1) fk fa sl ks ct sm le gr pl) (cwV 1 hta (gV w252 w254 sX_isPlace w1 w255) rfl rfl rfl (by decide +kernel) ⟨Nat.le_of_ble_eq_true rfl, Nat.le_of_ble_eq_true rfl⟩) ⟨gb_R, va_recv hK hP (ci := 0) (q0 := 0) rfl rfl, fun U hU hW => ⟨rfl, by rw [hU]; exact hP, va_K.moved hW.alike hK⟩⟩ rfl rfl hl.1 rfl (lv_room (Nat.le_of_ble_eq_true rfl)) dX_told_2 ⟨Nat.le_of_ble_eq_true rfl, Nat.le_of_ble_eq_true rfl⟩) ?_
  refine lv_if_ne (tgt := 18) hx hb dX_told_5 (by decide) (fun h1 => ?_) (fun h1 => ?_)
  rotate_left
  · skip
    have hn9 : ¬ (0 ≤ pl ∧ pl < nI T.1) := fun q => by rw [if_pos q] at h1; exact absurd h1 (by decide)
    exact gx_throw (is := 102) (text := "there is no such row") hx hb hnt hown hta hT hS (hl.1.trans hml.symm) (by decide) dX_told_8 dX_told_11 dX_told_12 dX_told_14 dX_told_17 hno (Nat.le_of_ble_eq_true rfl) (Nat.le_of_ble_eq_true rfl) (Nat.le_of_ble_eq_true rfl) (Nat.le_of_ble_eq_true rfl) hlocks (fun t9 hv9 hz9 hk9 => ⟨(), fun q => hn9 q.1, ⟨rfl, gx_P hP hk9, va_K.moved hv9 hK, hD⟩, gx_F hS hz9 hk9⟩) hS.2.2 (Nat.le_of_ble_eq_true rfl) (Nat.le_of_ble_eq_true rfl)
  · skip
    have hL1 : 0 ≤ pl ∧ pl < nI T.1 := by
      by_cases q : 0 ≤ pl ∧ pl < nI T.1
      · exact q
      · rw [if_neg q] at h1; exact absurd rfl h1
    refine lv_aload_n hx hb dX_told_18 rfl (lv_at hl 0 rfl) ?_
    refine lv_iload_n hx hb dX_told_19 rfl (lv_at hl 2 rfl) ?_
    refine gi_callR (v := .int (if 0 ≤ m0 ∧ m0 < nI mn then 1 else 0)) (W.runV (As := [.int m0]) (rest := []) ⟨hx, hb, hml, hown, hta⟩ (c_isMeasure l dC dI a k (nI wn) (nI mn) (nI T.1) fk fa sl ks ct sm le gr m0) (cwV 1 hta (gV w178 w180 sX_isMeasure w1 w181) rfl rfl rfl (by decide +kernel) ⟨Nat.le_of_ble_eq_true rfl, Nat.le_of_ble_eq_true rfl⟩) ⟨gb_R, va_recv hK hP (ci := 0) (q0 := 0) rfl rfl, fun U hU hW => ⟨rfl, by rw [hU]; exact hP, va_K.moved hW.alike hK⟩⟩ rfl rfl hl.1 rfl (lv_room (Nat.le_of_ble_eq_true rfl)) dX_told_20 ⟨Nat.le_of_ble_eq_true rfl, Nat.le_of_ble_eq_true rfl⟩) ?_
    refine lv_if_ne (tgt := 36) hx hb dX_told_23 (by decide) (fun h1 => ?_) (fun h1 => ?_)
    rotate_left
    · skip
      have hn9 : ¬ (0 ≤ m0 ∧ m0 < nI mn) := fun q => by rw [if_pos q] at h1; exact absurd h1 (by decide)
      exact gx_throw (is := 72) (text := "there is no such measure") hx hb hnt hown hta hT hS (hl.1.trans hml.symm) (by decide) dX_told_26 dX_told_29 dX_told_30 dX_told_32 dX_told_35 hno (Nat.le_of_ble_eq_true rfl) (Nat.le_of_ble_eq_true rfl) (Nat.le_of_ble_eq_true rfl) (Nat.le_of_ble_eq_true rfl) hlocks (fun t9 hv9 hz9 hk9 => ⟨(), fun q => hn9 q.2.1, ⟨rfl, gx_P hP hk9, va_K.moved hv9 hK, hD⟩, gx_F hS hz9 hk9⟩) hS.2.2 (Nat.le_of_ble_eq_true rfl) (Nat.le_of_ble_eq_true rfl)
    · skip
      have hL2 : 0 ≤ m0 ∧ m0 < nI mn := by
        by_cases q : 0 ≤ m0 ∧ m0 < nI mn
        · exact q
        · rw [if_neg q] at h1; exact absurd rfl h1
      obtain ⟨p0, hp0, ep, cp⟩ := in_nI (by omega) hL1
      obtain ⟨j, hj, ej, cj⟩ := in_nI (by omega) hL2
      subst ep
      subst ej
      have hσp := hσ.2.1 p0 (by omega)
      refine lv_aload_n hx hb dX_told_36 rfl (lv_at hl 0 rfl) ?_
      refine va_get (D := (dC, dI)) (ci := 0) (v := .ref (a 3)) (C := "GroupRows") (T := FX) (N := 11) hx hb hta inX hown hK hP 0 rfl rfl 5 (by decide) (hta _ w24) (fun _ h9 => h9) rfl dX_told_37 ?_
      refine lv_iload_n hx hb dX_told_40 rfl (lv_at hl 1 rfl) ?_
      refine gi_iald hx hb hK hP 3 2 rfl rfl (k := p0) (by omega) (by decide) dX_told_41 ?_
      refine gi_as (y := nI (σ p0)) (hσ.1 p0 (by omega)) ?_
      refine lv_bipush (v := 8) hx hb dX_told_42 (by decide) ?_
      refine lv_imul hx hb dX_told_44 ?_
      refine gi_as (y := nI (8 * (σ p0))) (gi_mul8 _) ?_
      refine lv_iload_n hx hb dX_told_45 rfl (lv_at hl 2 rfl) ?_
      refine lv_iadd hx hb dX_told_46 ?_
      refine gi_as (y := nI ((8 * (σ p0)) + j)) (nI_add _ _) ?_
      refine lv_istore (lv' := [(4, .int (nI ((8 * (σ p0)) + j))), (0, .ref (a 0)), (1, .int (nI p0)), (2, .int (nI j)), (3, .int wh)]) hx hb dX_told_47 hl (by decide) rfl (fun ls hl => ?_)
      refine lv_iload_n hx hb dX_told_49 rfl (lv_at hl 4 rfl) ?_
      by_cases hw : 0 ≤ wh ∧ wh ≤ 2
      · skip
        obtain ⟨q0, hq0, eq0, cq0⟩ := in_le (n := 2) (by decide) hw
        rcases (show q0 = 0 ∨ q0 = 1 ∨ q0 = 2 by omega) with rfl | rfl | rfl
        · skip
          subst eq0
          refine lv_tableIn (off := 26) (tgt := 76) hx hb dX_told_50 (by decide) (by decide) (by decide) (by decide) ?_
          refine lv_aload_n hx hb dX_told_76 rfl (lv_at hl 1 rfl) ?_
          refine va_get (D := (dC, dI)) (ci := 0) (v := .ref (a 6)) (C := "GroupRows") (T := FX) (N := 11) hx hb hta inX hown hK hP 0 rfl rfl 8 (by decide) (hta _ w27) (fun _ h9 => h9) rfl dX_told_77 ?_
          refine lv_iload hx hb dX_told_80 (lv_at hl 0 rfl) ?_
          refine gi_lald hx hb hK hP 6 5 rfl rfl (k := ((8 * (σ p0)) + j)) (by omega) (by decide) dX_told_82 ?_
          refine gi_asl (y := T.2.2.2.1 p0 j) ((hv9 p0 j hp0 hj).1) ?_
          refine vx_ret ?_
          refine W.widen (k := 1) (n := 6) (Nat.zero_le _) (Nat.zero_le _) ?_
          exact W.lret (v := (T.2.2.2.1 p0 j)) hx hb hr (fun t9 ht9 hW9 => ⟨⟨(T.2.2.2.1 p0 j), (), rfl, ⟨⟨hL1, hL2, hw⟩, by rw [cp, cj, if_pos (show nI 0 = 0 from by decide)]⟩, by rw [ht9]; exact hP, va_K.moved hW9.alike hK, hD⟩, hS.F ht9⟩) hS.2.2 dX_told_83
        · skip
          subst eq0
          refine lv_tableIn (off := 34) (tgt := 84) hx hb dX_told_50 (by decide) (by decide) (by decide) (by decide) ?_
          refine lv_aload_n hx hb dX_told_84 rfl (lv_at hl 1 rfl) ?_
          refine va_get (D := (dC, dI)) (ci := 0) (v := .ref (a 7)) (C := "GroupRows") (T := FX) (N := 11) hx hb hta inX hown hK hP 0 rfl rfl 9 (by decide) (hta _ w28) (fun _ h9 => h9) rfl dX_told_85 ?_
          refine lv_iload hx hb dX_told_88 (lv_at hl 0 rfl) ?_
          refine gi_lald hx hb hK hP 7 6 rfl rfl (k := ((8 * (σ p0)) + j)) (by omega) (by decide) dX_told_90 ?_
          refine gi_asl (y := T.2.2.2.2.1 p0 j) ((hv9 p0 j hp0 hj).2.1) ?_
          refine vx_ret ?_
          refine W.widen (k := 1) (n := 6) (Nat.zero_le _) (Nat.zero_le _) ?_
          exact W.lret (v := (T.2.2.2.2.1 p0 j)) hx hb hr (fun t9 ht9 hW9 => ⟨⟨(T.2.2.2.2.1 p0 j), (), rfl, ⟨⟨hL1, hL2, hw⟩, by rw [cp, cj, if_neg (show ¬ nI 1 = 0 from by decide), if_pos (show nI 1 = 1 from by decide)]⟩, by rw [ht9]; exact hP, va_K.moved hW9.alike hK, hD⟩, hS.F ht9⟩) hS.2.2 dX_told_91
        · skip
          subst eq0
          refine lv_tableIn (off := 42) (tgt := 92) hx hb dX_told_50 (by decide) (by decide) (by decide) (by decide) ?_
          refine lv_aload_n hx hb dX_told_92 rfl (lv_at hl 1 rfl) ?_
          refine va_get (D := (dC, dI)) (ci := 0) (v := .ref (a 8)) (C := "GroupRows") (T := FX) (N := 11) hx hb hta inX hown hK hP 0 rfl rfl 10 (by decide) (hta _ w29) (fun _ h9 => h9) rfl dX_told_93 ?_
          refine lv_iload hx hb dX_told_96 (lv_at hl 0 rfl) ?_
          refine gi_lald hx hb hK hP 8 7 rfl rfl (k := ((8 * (σ p0)) + j)) (by omega) (by decide) dX_told_98 ?_
          refine gi_asl (y := T.2.2.2.2.2 p0 j) ((hv9 p0 j hp0 hj).2.2) ?_
          refine vx_ret ?_
          refine W.widen (k := 1) (n := 6) (Nat.zero_le _) (Nat.zero_le _) ?_
          exact W.lret (v := (T.2.2.2.2.2 p0 j)) hx hb hr (fun t9 ht9 hW9 => ⟨⟨(T.2.2.2.2.2 p0 j), (), rfl, ⟨⟨hL1, hL2, hw⟩, by rw [cp, cj, if_neg (show ¬ nI 2 = 0 from by decide), if_neg (show ¬ nI 2 = 1 from by decide)]⟩, by rw [ht9]; exact hP, va_K.moved hW9.alike hK, hD⟩, hS.F ht9⟩) hS.2.2 dX_told_99
      · skip
        have ho : wh.toInt < 0 ∨ 2 < wh.toInt := by
          rcases Int.lt_or_le wh.toInt 0 with q | q
          · exact Or.inl q
          · rcases Int.lt_or_le 2 wh.toInt with q2 | q2
            · exact Or.inr q2
            · exact absurd ⟨Int32.le_iff_toInt_le.mpr q, Int32.le_iff_toInt_le.mpr q2⟩ hw
        refine lv_tableOut (tgt := 100) hx hb dX_told_50 ho (by decide) ?_
        exact gx_throw (is := 104) (text := "what is not 0 .. 2") hx hb hnt hown hta hT hS (hl.1.trans hml.symm) (by decide) dX_told_100 dX_told_103 dX_told_104 dX_told_106 dX_told_109 hno (Nat.le_of_ble_eq_true rfl) (Nat.le_of_ble_eq_true rfl) (Nat.le_of_ble_eq_true rfl) (Nat.le_of_ble_eq_true rfl) hlocks (fun t9 hv9 hz9 hk9 => ⟨(), fun q => hw q.2.2, ⟨rfl, gx_P hP hk9, va_K.moved hv9 hK, hD⟩, gx_F hS hz9 hk9⟩) hS.2.2 (Nat.le_of_ble_eq_true rfl) (Nat.le_of_ble_eq_true rfl)
