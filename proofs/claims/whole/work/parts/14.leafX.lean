theorem gb_T {av : List Value} : FrameBlind (va_Pc av (fun _ => True)) := fun a U g mk q => ⟨q.1, trivial⟩
set_option maxHeartbeats 4000000 in
set_option maxRecDepth 100000 in
/-- Integer.compare -/
theorem c_JIcompare (l : Launch) (x y : Int32) : Met l yJI_compare (Cond.code yJI_compare bJI_compare 2 (some .int) :: wAll) rm0 (va_Pc [.int x, .int y] (fun _ => True)) (QcV (.int (if x < y then (-1) else if x = y then 0 else 1))) 0 0 (fun _ => False) := by
  refine va_MetF (cc := bJI_compare) (maxL := 2) (ret := (some .int)) (by decide) rfl ?_
  intro p e s m args below meth c s₁ B hml hv
  obtain ⟨rfl, -⟩ := hv
  have hx := B.exec
  have hb := B.bytes
  have hr := B.returns
  have hta : ∀ w ∈ wAll, w.before ([.int x, .int y] : List Value).toArray s = true := fun w h => atoms_spec (ws := (Cond.code yJI_compare bJI_compare 2 (some .int) :: wAll)) B.pre w (List.mem_cons_of_mem _ h)
  have hown : s.vm.findClass "java/lang/Integer" = some m.cls := findClass_of_methodNamed B.named
  have hlocks := B.notSynchronized
  have hl := lv_entry ([.int x, .int y]) (n := 2) (Nat.le_of_ble_eq_true rfl)
  rw [lg_entry_eq]
  generalize (lg_sl ([.int x, .int y]) ++ List.replicate (2 - (lg_sl ([.int x, .int y])).length) Slot.unset).toArray = ls at hl ⊢
  have hl : lv_has ls 2 [(0, .int x), (1, .int y)] := hl
  refine lv_iload_n hx hb dJI_compare_0 rfl (lv_at hl 0 rfl) ?_
  refine lv_iload_n hx hb dJI_compare_1 rfl (lv_at hl 1 rfl) ?_
  refine lv_icmp_ge (tgt := 9) hx hb dJI_compare_2 (by decide) (fun h1 => ?_) (fun h1 => ?_)
  · skip
    refine lv_iload_n hx hb dJI_compare_9 rfl (lv_at hl 0 rfl) ?_
    refine lv_iload_n hx hb dJI_compare_10 rfl (lv_at hl 1 rfl) ?_
    refine lv_icmp_ne (tgt := 18) hx hb dJI_compare_11 (by decide) (fun h2 => ?_) (fun h2 => ?_)
    · skip
      refine lv_iconst (v := 1) hx hb dJI_compare_18 (by decide) ?_
      exact W.iret hx hb hr (fun t9 ht9 hW9 => ⟨congrArg (fun z => Outcome.returned (some (Value.int z))) (by rw [if_neg (Int32.not_lt.mpr h1), if_neg h2]), ht9⟩) (fun _ h => by cases h) dJI_compare_19
    · skip
      refine lv_iconst (v := 0) hx hb dJI_compare_14 (by decide) ?_
      refine lv_goto (tgt := 19) hx hb dJI_compare_15 (by decide) ?_
      exact W.iret hx hb hr (fun t9 ht9 hW9 => ⟨congrArg (fun z => Outcome.returned (some (Value.int z))) (by rw [if_neg (Int32.not_lt.mpr h1), if_pos h2]), ht9⟩) (fun _ h => by cases h) dJI_compare_19
  · skip
    refine lv_iconst (v := (-1)) hx hb dJI_compare_5 (by decide) ?_
    refine lv_goto (tgt := 19) hx hb dJI_compare_6 (by decide) ?_
    exact W.iret hx hb hr (fun t9 ht9 hW9 => ⟨congrArg (fun z => Outcome.returned (some (Value.int z))) (by rw [if_pos (Int32.not_le.mp h1)]), ht9⟩) (fun _ h => by cases h) dJI_compare_19
set_option maxHeartbeats 4000000 in
set_option maxRecDepth 100000 in
theorem c_isPart (l : Launch) (dC : Nat → ClassId) (dI : Nat → Nat → Nat) (a : Nat → Nat) (k : Nat → ClassId) (w ms n : Int32) (fk : Nat → Int32) (fa : Nat → Int64) (sl ks : Nat → Int32) (ct sm le gr : Nat → Int64) (i : Int32) : Met l yX_isPart (Cond.code yX_isPart bX_isPart 2 (some .boolean) :: wAll) rm0 (va_Pc [.ref (a 0), .int i] (fun U => va_P (dC, dI) classes (wX a k w ms n fk fa sl ks ct sm le gr) U.heap ∧ va_K (dC, dI) classes (kX k) U)) (QcV (.int (if 0 ≤ i ∧ i < w then 1 else 0))) 0 0 (fun _ => False) := by
  refine Met.ofW (cc := bX_isPart) (maxL := 2) (ret := (some .boolean)) (by decide) rfl ?_
  intro p e s m args below meth c s₁ B hml hv
  obtain ⟨rfl, hP, hK⟩ := hv
  have hx := B.exec
  have hb := B.bytes
  have hr := B.returns
  have hta : ∀ w ∈ wAll, w.before ([.ref (a 0), .int i] : List Value).toArray s = true := fun w h => atoms_spec (ws := (Cond.code yX_isPart bX_isPart 2 (some .boolean) :: wAll)) B.pre w (List.mem_cons_of_mem _ h)
  have hown : s.vm.findClass "GroupRows" = some m.cls := findClass_of_methodNamed B.named
  have hlocks := B.notSynchronized
  have hP : va_P (dC, dI) classes (wX a k w ms n fk fa sl ks ct sm le gr) s.heap := hP
  have hl := lv_entry ([.ref (a 0), .int i]) (n := 2) (Nat.le_of_ble_eq_true rfl)
  rw [lg_entry_eq]
  generalize (lg_sl ([.ref (a 0), .int i]) ++ List.replicate (2 - (lg_sl ([.ref (a 0), .int i])).length) Slot.unset).toArray = ls at hl ⊢
  have hl : lv_has ls 2 [(0, .ref (a 0)), (1, .int i)] := hl
  refine lv_iload_n hx hb dX_isPart_0 rfl (lv_at hl 1 rfl) ?_
  refine lv_if_lt (tgt := 16) hx hb dX_isPart_1 (by decide) (fun h1 => ?_) (fun h1 => ?_)
  · skip
    refine lv_iconst (v := 0) hx hb dX_isPart_16 (by decide) ?_
    exact W.zret hx hb hr (rfl) (fun t9 ht9 hW9 => ⟨congrArg (fun z => Outcome.returned (some (Value.int z))) ((if_neg (fun q => absurd q.1 (Int32.not_le.mpr h1))).symm), ht9⟩) (fun _ h => by cases h) dX_isPart_17
  · skip
    refine lv_iload_n hx hb dX_isPart_4 rfl (lv_at hl 1 rfl) ?_
    refine lv_aload_n hx hb dX_isPart_5 rfl (lv_at hl 0 rfl) ?_
    refine va_get (D := (dC, dI)) (ci := 0) (v := .int w) (C := "GroupRows") (T := FX) (N := 11) hx hb hta inX hown hK hP 0 rfl rfl 0 (by decide) (hta _ w19) (fun _ h9 => h9) rfl dX_isPart_6 ?_
    refine lv_icmp_ge (tgt := 16) hx hb dX_isPart_9 (by decide) (fun h2 => ?_) (fun h2 => ?_)
    · skip
      refine lv_iconst (v := 0) hx hb dX_isPart_16 (by decide) ?_
      exact W.zret hx hb hr (rfl) (fun t9 ht9 hW9 => ⟨congrArg (fun z => Outcome.returned (some (Value.int z))) ((if_neg (fun q => absurd q.2 (Int32.not_lt.mpr h2))).symm), ht9⟩) (fun _ h => by cases h) dX_isPart_17
    · skip
      refine lv_iconst (v := 1) hx hb dX_isPart_12 (by decide) ?_
      refine lv_goto (tgt := 17) hx hb dX_isPart_13 (by decide) ?_
      exact W.zret hx hb hr (rfl) (fun t9 ht9 hW9 => ⟨congrArg (fun z => Outcome.returned (some (Value.int z))) ((if_pos ⟨Int32.not_lt.mp h1, Int32.not_le.mp h2⟩).symm), ht9⟩) (fun _ h => by cases h) dX_isPart_17
set_option maxHeartbeats 4000000 in
set_option maxRecDepth 100000 in
theorem c_isMeasure (l : Launch) (dC : Nat → ClassId) (dI : Nat → Nat → Nat) (a : Nat → Nat) (k : Nat → ClassId) (w ms n : Int32) (fk : Nat → Int32) (fa : Nat → Int64) (sl ks : Nat → Int32) (ct sm le gr : Nat → Int64) (i : Int32) : Met l yX_isMeasure (Cond.code yX_isMeasure bX_isMeasure 2 (some .boolean) :: wAll) rm0 (va_Pc [.ref (a 0), .int i] (fun U => va_P (dC, dI) classes (wX a k w ms n fk fa sl ks ct sm le gr) U.heap ∧ va_K (dC, dI) classes (kX k) U)) (QcV (.int (if 0 ≤ i ∧ i < ms then 1 else 0))) 0 0 (fun _ => False) := by
  refine Met.ofW (cc := bX_isMeasure) (maxL := 2) (ret := (some .boolean)) (by decide) rfl ?_
  intro p e s m args below meth c s₁ B hml hv
  obtain ⟨rfl, hP, hK⟩ := hv
  have hx := B.exec
  have hb := B.bytes
  have hr := B.returns
  have hta : ∀ w ∈ wAll, w.before ([.ref (a 0), .int i] : List Value).toArray s = true := fun w h => atoms_spec (ws := (Cond.code yX_isMeasure bX_isMeasure 2 (some .boolean) :: wAll)) B.pre w (List.mem_cons_of_mem _ h)
  have hown : s.vm.findClass "GroupRows" = some m.cls := findClass_of_methodNamed B.named
  have hlocks := B.notSynchronized
  have hP : va_P (dC, dI) classes (wX a k w ms n fk fa sl ks ct sm le gr) s.heap := hP
  have hl := lv_entry ([.ref (a 0), .int i]) (n := 2) (Nat.le_of_ble_eq_true rfl)
  rw [lg_entry_eq]
  generalize (lg_sl ([.ref (a 0), .int i]) ++ List.replicate (2 - (lg_sl ([.ref (a 0), .int i])).length) Slot.unset).toArray = ls at hl ⊢
  have hl : lv_has ls 2 [(0, .ref (a 0)), (1, .int i)] := hl
  refine lv_iload_n hx hb dX_isMeasure_0 rfl (lv_at hl 1 rfl) ?_
  refine lv_if_lt (tgt := 16) hx hb dX_isMeasure_1 (by decide) (fun h1 => ?_) (fun h1 => ?_)
  · skip
    refine lv_iconst (v := 0) hx hb dX_isMeasure_16 (by decide) ?_
    exact W.zret hx hb hr (rfl) (fun t9 ht9 hW9 => ⟨congrArg (fun z => Outcome.returned (some (Value.int z))) ((if_neg (fun q => absurd q.1 (Int32.not_le.mpr h1))).symm), ht9⟩) (fun _ h => by cases h) dX_isMeasure_17
  · skip
    refine lv_iload_n hx hb dX_isMeasure_4 rfl (lv_at hl 1 rfl) ?_
    refine lv_aload_n hx hb dX_isMeasure_5 rfl (lv_at hl 0 rfl) ?_
    refine va_get (D := (dC, dI)) (ci := 0) (v := .int ms) (C := "GroupRows") (T := FX) (N := 11) hx hb hta inX hown hK hP 0 rfl rfl 1 (by decide) (hta _ w20) (fun _ h9 => h9) rfl dX_isMeasure_6 ?_
    refine lv_icmp_ge (tgt := 16) hx hb dX_isMeasure_9 (by decide) (fun h2 => ?_) (fun h2 => ?_)
    · skip
      refine lv_iconst (v := 0) hx hb dX_isMeasure_16 (by decide) ?_
      exact W.zret hx hb hr (rfl) (fun t9 ht9 hW9 => ⟨congrArg (fun z => Outcome.returned (some (Value.int z))) ((if_neg (fun q => absurd q.2 (Int32.not_lt.mpr h2))).symm), ht9⟩) (fun _ h => by cases h) dX_isMeasure_17
    · skip
      refine lv_iconst (v := 1) hx hb dX_isMeasure_12 (by decide) ?_
      refine lv_goto (tgt := 17) hx hb dX_isMeasure_13 (by decide) ?_
      exact W.zret hx hb hr (rfl) (fun t9 ht9 hW9 => ⟨congrArg (fun z => Outcome.returned (some (Value.int z))) ((if_pos ⟨Int32.not_lt.mp h1, Int32.not_le.mp h2⟩).symm), ht9⟩) (fun _ h => by cases h) dX_isMeasure_17
set_option maxHeartbeats 4000000 in
set_option maxRecDepth 100000 in
theorem c_isPlace (l : Launch) (dC : Nat → ClassId) (dI : Nat → Nat → Nat) (a : Nat → Nat) (k : Nat → ClassId) (w ms n : Int32) (fk : Nat → Int32) (fa : Nat → Int64) (sl ks : Nat → Int32) (ct sm le gr : Nat → Int64) (i : Int32) : Met l yX_isPlace (Cond.code yX_isPlace bX_isPlace 2 (some .boolean) :: wAll) rm0 (va_Pc [.ref (a 0), .int i] (fun U => va_P (dC, dI) classes (wX a k w ms n fk fa sl ks ct sm le gr) U.heap ∧ va_K (dC, dI) classes (kX k) U)) (QcV (.int (if 0 ≤ i ∧ i < n then 1 else 0))) 0 0 (fun _ => False) := by
  refine Met.ofW (cc := bX_isPlace) (maxL := 2) (ret := (some .boolean)) (by decide) rfl ?_
  intro p e s m args below meth c s₁ B hml hv
  obtain ⟨rfl, hP, hK⟩ := hv
  have hx := B.exec
  have hb := B.bytes
  have hr := B.returns
  have hta : ∀ w ∈ wAll, w.before ([.ref (a 0), .int i] : List Value).toArray s = true := fun w h => atoms_spec (ws := (Cond.code yX_isPlace bX_isPlace 2 (some .boolean) :: wAll)) B.pre w (List.mem_cons_of_mem _ h)
  have hown : s.vm.findClass "GroupRows" = some m.cls := findClass_of_methodNamed B.named
  have hlocks := B.notSynchronized
  have hP : va_P (dC, dI) classes (wX a k w ms n fk fa sl ks ct sm le gr) s.heap := hP
  have hl := lv_entry ([.ref (a 0), .int i]) (n := 2) (Nat.le_of_ble_eq_true rfl)
  rw [lg_entry_eq]
  generalize (lg_sl ([.ref (a 0), .int i]) ++ List.replicate (2 - (lg_sl ([.ref (a 0), .int i])).length) Slot.unset).toArray = ls at hl ⊢
  have hl : lv_has ls 2 [(0, .ref (a 0)), (1, .int i)] := hl
  refine lv_iload_n hx hb dX_isPlace_0 rfl (lv_at hl 1 rfl) ?_
  refine lv_if_lt (tgt := 16) hx hb dX_isPlace_1 (by decide) (fun h1 => ?_) (fun h1 => ?_)
  · skip
    refine lv_iconst (v := 0) hx hb dX_isPlace_16 (by decide) ?_
    exact W.zret hx hb hr (rfl) (fun t9 ht9 hW9 => ⟨congrArg (fun z => Outcome.returned (some (Value.int z))) ((if_neg (fun q => absurd q.1 (Int32.not_le.mpr h1))).symm), ht9⟩) (fun _ h => by cases h) dX_isPlace_17
  · skip
    refine lv_iload_n hx hb dX_isPlace_4 rfl (lv_at hl 1 rfl) ?_
    refine lv_aload_n hx hb dX_isPlace_5 rfl (lv_at hl 0 rfl) ?_
    refine va_get (D := (dC, dI)) (ci := 0) (v := .int n) (C := "GroupRows") (T := FX) (N := 11) hx hb hta inX hown hK hP 0 rfl rfl 2 (by decide) (hta _ w21) (fun _ h9 => h9) rfl dX_isPlace_6 ?_
    refine lv_icmp_ge (tgt := 16) hx hb dX_isPlace_9 (by decide) (fun h2 => ?_) (fun h2 => ?_)
    · skip
      refine lv_iconst (v := 0) hx hb dX_isPlace_16 (by decide) ?_
      exact W.zret hx hb hr (rfl) (fun t9 ht9 hW9 => ⟨congrArg (fun z => Outcome.returned (some (Value.int z))) ((if_neg (fun q => absurd q.2 (Int32.not_lt.mpr h2))).symm), ht9⟩) (fun _ h => by cases h) dX_isPlace_17
    · skip
      refine lv_iconst (v := 1) hx hb dX_isPlace_12 (by decide) ?_
      refine lv_goto (tgt := 17) hx hb dX_isPlace_13 (by decide) ?_
      exact W.zret hx hb hr (rfl) (fun t9 ht9 hW9 => ⟨congrArg (fun z => Outcome.returned (some (Value.int z))) ((if_pos ⟨Int32.not_lt.mp h1, Int32.not_le.mp h2⟩).symm), ht9⟩) (fun _ h => by cases h) dX_isPlace_17
set_option maxHeartbeats 4000000 in
set_option maxRecDepth 100000 in
/-- compareKey, the parts being fk -/
theorem c_compareKeyF (l : Launch) (dC : Nat → ClassId) (dI : Nat → Nat → Nat) (a : Nat → Nat) (k : Nat → ClassId) (wn : Nat) (ms n : Int32) (fk : Nat → Int32) (fa : Nat → Int64) (sl ks : Nat → Int32) (ct sm le gr : Nat → Int64) (q t : Nat) (hwn : wn ≤ 8) (hq : q < 1000) (ht : t + 8 ≤ 8) : Met l yX_compareKey (Cond.code yX_compareKey bX_compareKey 7 (some .int) :: wAll) { frames := 1, cells := 0, slots := 0, locals := 32 } (va_Pc [.ref (a 0), .int (nI q), .ref (a 1), .int (nI t)] (fun U => va_P (dC, dI) classes (wX a k (nI wn) ms n fk fa sl ks ct sm le gr) U.heap ∧ va_K (dC, dI) classes (kX k) U)) (QcV (.int (lx (fun i => ks (8 * q + i)) (fun i => fk (t + i)) wn 0))) 0 0 (fun _ => False) := by
  refine Met.ofW (cc := bX_compareKey) (maxL := 7) (ret := (some .int)) (by decide) rfl ?_
  intro p e s m args below meth c s₁ B hml hv
  obtain ⟨rfl, hP, hK⟩ := hv
  have hx := B.exec
  have hb := B.bytes
  have hr := B.returns
  have hta : ∀ w ∈ wAll, w.before ([.ref (a 0), .int (nI q), .ref (a 1), .int (nI t)] : List Value).toArray s = true := fun w h => atoms_spec (ws := (Cond.code yX_compareKey bX_compareKey 7 (some .int) :: wAll)) B.pre w (List.mem_cons_of_mem _ h)
  have hown : s.vm.findClass "GroupRows" = some m.cls := findClass_of_methodNamed B.named
  have hlocks := B.notSynchronized
  have hP : va_P (dC, dI) classes (wX a k (nI wn) ms n fk fa sl ks ct sm le gr) s.heap := hP
  have hl := lv_entry ([.ref (a 0), .int (nI q), .ref (a 1), .int (nI t)]) (n := 7) (Nat.le_of_ble_eq_true rfl)
  rw [lg_entry_eq]
  generalize (lg_sl ([.ref (a 0), .int (nI q), .ref (a 1), .int (nI t)]) ++ List.replicate (7 - (lg_sl ([.ref (a 0), .int (nI q), .ref (a 1), .int (nI t)])).length) Slot.unset).toArray = ls at hl ⊢
  have hl : lv_has ls 7 [(0, .ref (a 0)), (1, .int (nI q)), (2, .ref (a 1)), (3, .int (nI t))] := hl
  refine lv_iload_n hx hb dX_compareKey_0 rfl (lv_at hl 1 rfl) ?_
  refine lv_bipush (v := 8) hx hb dX_compareKey_1 (by decide) ?_
  refine lv_imul hx hb dX_compareKey_3 ?_
  refine gi_as (y := nI (8 * q)) (gi_mul8 _) ?_
  refine lv_istore (lv' := [(4, .int (nI (8 * q))), (0, .ref (a 0)), (1, .int (nI q)), (2, .ref (a 1)), (3, .int (nI t))]) hx hb dX_compareKey_4 hl (by decide) rfl (fun ls hl => ?_)
  refine lv_iconst (v := 0) hx hb dX_compareKey_6 (by decide) ?_
  refine gi_as (y := nI 0) (nI_0.symm) ?_
  refine lv_istore (lv' := [(5, .int (nI 0)), (4, .int (nI (8 * q))), (0, .ref (a 0)), (1, .int (nI q)), (2, .ref (a 1)), (3, .int (nI t))]) hx hb dX_compareKey_7 hl (by decide) rfl (fun ls hl => ?_)
  have loop : ∀ (kk i : Nat), i + kk = wn → lx (fun i => ks (8 * q + i)) (fun i => fk (t + i)) wn 0 = lx (fun i => ks (8 * q + i)) (fun i => fk (t + i)) kk i → ∀ (ls : Array Slot), lv_has ls 7 [(5, .int (nI i)), (4, .int (nI (8 * q))), (0, .ref (a 0)), (1, .int (nI q)), (2, .ref (a 1)), (3, .int (nI t))] → W p l e (headSpec (Cond.code yX_compareKey bX_compareKey 7 (some .int) :: wAll) { frames := 1, cells := 0, slots := 0, locals := 32 }).room s m ([.ref (a 0), .int (nI q), .ref (a 1), .int (nI t)] : List Value).toArray below meth c s.heap [] 0 0 (MQ below (QcV (.int (lx (fun i => ks (8 * q + i)) (fun i => fk (t + i)) wn 0))) ([.ref (a 0), .int (nI q), .ref (a 1), .int (nI t)] : List Value).toArray s 0 0 (fun _ => False)) (F0 m 9 ls []) := by
    intro kk
    induction kk with
    | zero =>
      intro i hi hlx ls hl
      refine lv_iload hx hb dX_compareKey_9 (lv_at hl 0 rfl) ?_
      refine lv_aload_n hx hb dX_compareKey_11 rfl (lv_at hl 2 rfl) ?_
      refine va_get (D := (dC, dI)) (ci := 0) (v := .int (nI wn)) (C := "GroupRows") (T := FX) (N := 11) hx hb hta inX hown hK hP 0 rfl rfl 0 (by decide) (hta _ w19) (fun _ h9 => h9) rfl dX_compareKey_12 ?_
      refine lv_icmp_ge (tgt := 53) hx hb dX_compareKey_15 (by decide) (fun h1 => ?_) (fun h1 => ?_)
      · skip
        refine lv_iconst (v := 0) hx hb dX_compareKey_53 (by decide) ?_
        exact W.iret hx hb hr (fun t9 ht9 hW9 => ⟨congrArg (fun z => Outcome.returned (some (Value.int z))) (hlx.symm), ht9⟩) (fun _ h => by cases h) dX_compareKey_54
      · skip
        exact absurd (nI_le (by omega) (by omega)) h1
    | succ kk ih =>
      intro i hi hlx ls hl
      refine lv_iload hx hb dX_compareKey_9 (lv_at hl 0 rfl) ?_
      refine lv_aload_n hx hb dX_compareKey_11 rfl (lv_at hl 2 rfl) ?_
      refine va_get (D := (dC, dI)) (ci := 0) (v := .int (nI wn)) (C := "GroupRows") (T := FX) (N := 11) hx hb hta inX hown hK hP 0 rfl rfl 0 (by decide) (hta _ w19) (fun _ h9 => h9) rfl dX_compareKey_12 ?_
      refine lv_icmp_ge (tgt := 53) hx hb dX_compareKey_15 (by decide) (fun h1 => ?_) (fun h1 => ?_)
      · skip
        exact absurd h1 (nI_ge (a := i) (by omega) (by omega))
      · skip
        refine lv_aload_n hx hb dX_compareKey_18 rfl (lv_at hl 2 rfl) ?_
        refine va_get (D := (dC, dI)) (ci := 0) (v := .ref (a 4)) (C := "GroupRows") (T := FX) (N := 11) hx hb hta inX hown hK hP 0 rfl rfl 6 (by decide) (hta _ w25) (fun _ h9 => h9) rfl dX_compareKey_19 ?_
        refine lv_iload hx hb dX_compareKey_22 (lv_at hl 1 rfl) ?_
        refine lv_iload hx hb dX_compareKey_24 (lv_at hl 0 rfl) ?_
        refine lv_iadd hx hb dX_compareKey_26 ?_
        refine gi_as (y := nI ((8 * q) + i)) (nI_add _ _) ?_
        refine gi_iald hx hb hK hP 4 3 rfl rfl (k := ((8 * q) + i)) (by omega) (by decide) dX_compareKey_27 ?_
        refine lv_aload_n hx hb dX_compareKey_28 rfl (lv_at hl 4 rfl) ?_
        refine lv_iload_n hx hb dX_compareKey_29 rfl (lv_at hl 5 rfl) ?_
        refine lv_iload hx hb dX_compareKey_30 (lv_at hl 0 rfl) ?_
        refine lv_iadd hx hb dX_compareKey_32 ?_
        refine gi_as (y := nI (t + i)) (nI_add _ _) ?_
        refine gi_iald hx hb hK hP 1 0 rfl rfl (k := (t + i)) (by omega) (by decide) dX_compareKey_33 ?_
        refine gi_callR (v := .int (if (ks (8 * q + i)) < (fk (t + i)) then (-1) else if (ks (8 * q + i)) = (fk (t + i)) then 0 else 1)) (W.runS (As := [.int (ks ((8 * q) + i)), .int (fk (t + i))]) (rest := []) ⟨hx, hb, hml, hown, hta⟩ (c_JIcompare l (ks (8 * q + i)) (fk (t + i))) (va_cwS 2 hta (gS w71 w72 w8 w73) rfl rfl rfl (by decide +kernel) ⟨Nat.le_of_ble_eq_true rfl, Nat.le_of_ble_eq_true rfl⟩) ⟨gb_T, fun U hU hW => ⟨rfl, trivial⟩⟩ rfl rfl hl.1 rfl (lv_room (Nat.le_of_ble_eq_true rfl)) dX_compareKey_34 ⟨Nat.le_of_ble_eq_true rfl, Nat.le_of_ble_eq_true rfl⟩) ?_
        refine lv_topi (fun ov eov => ?_)
        refine lv_istore (lv' := [(6, .int ov), (5, .int (nI i)), (4, .int (nI (8 * q))), (0, .ref (a 0)), (1, .int (nI q)), (2, .ref (a 1)), (3, .int (nI t))]) hx hb dX_compareKey_37 hl (by decide) rfl (fun ls hl => ?_)
        refine lv_iload hx hb dX_compareKey_39 (lv_at hl 0 rfl) ?_
        refine lv_if_eq (tgt := 47) hx hb dX_compareKey_41 (by decide) (fun h2 => ?_) (fun h2 => ?_)
        · skip
          have he : (ks (8 * q + i)) = (fk (t + i)) := by
            rcases i32_tri (ks (8 * q + i)) (fk (t + i)) with h | h | h
            · rw [eov, if_pos h] at h2; exact absurd h2 (by decide)
            · exact h
            · rw [eov, if_neg (i32_lt_asymm h), if_neg (fun q => by rw [q] at h; exact i32_lt_irr _ h)] at h2; exact absurd h2 (by decide)
          refine lv_iinc (v := (nI (i + 1))) (lv' := [(5, .int (nI (i + 1))), (6, .int ov), (4, .int (nI (8 * q))), (0, .ref (a 0)), (1, .int (nI q)), (2, .ref (a 1)), (3, .int (nI t))]) hx hb dX_compareKey_47 hl (k := 1) rfl (nI_1 _) (by decide) rfl (fun ls hl => ?_)
          refine lv_goto (tgt := 9) hx hb dX_compareKey_50 (by decide) ?_
          have hl := lv_sub hl [0, 2, 3, 4, 5, 6] rfl
          have hl : lv_has ls 7 [(5, .int (nI (i + 1))), (4, .int (nI (8 * q))), (0, .ref (a 0)), (1, .int (nI q)), (2, .ref (a 1)), (3, .int (nI t))] := hl
          exact ih (i + 1) (by omega) (hlx.trans (by simp only [lx, he, if_true, if_neg (i32_lt_irr _)])) ls hl
        · skip
          refine lv_iload hx hb dX_compareKey_44 (lv_at hl 0 rfl) ?_
          exact W.iret hx hb hr (fun t9 ht9 hW9 => ⟨congrArg (fun z => Outcome.returned (some (Value.int z))) (by
    rw [hlx, eov]; simp only [lx]
    by_cases q1 : (ks (8 * q + i)) < (fk (t + i))
    · rw [if_pos q1, if_pos q1]
    · by_cases q2 : (ks (8 * q + i)) = (fk (t + i))
      · exact absurd (by rw [eov, if_neg q1, if_pos q2]) h2
      · rw [if_neg q1, if_neg q1, if_neg q2, if_neg q2]), ht9⟩) (fun _ h => by cases h) dX_compareKey_46
  have hl := lv_sub hl [0, 1, 2, 3, 4, 5] rfl
  have hl : lv_has ls 7 [(5, .int (nI 0)), (4, .int (nI (8 * q))), (0, .ref (a 0)), (1, .int (nI q)), (2, .ref (a 1)), (3, .int (nI t))] := hl
  exact loop wn 0 (by omega) rfl ls hl
set_option maxHeartbeats 4000000 in
set_option maxRecDepth 100000 in
/-- compareKey, the parts being ks -/
theorem c_compareKeyK (l : Launch) (dC : Nat → ClassId) (dI : Nat → Nat → Nat) (a : Nat → Nat) (k : Nat → ClassId) (wn : Nat) (ms n : Int32) (fk : Nat → Int32) (fa : Nat → Int64) (sl ks : Nat → Int32) (ct sm le gr : Nat → Int64) (q t : Nat) (hwn : wn ≤ 8) (hq : q < 1000) (ht : t + 8 ≤ 8000) : Met l yX_compareKey (Cond.code yX_compareKey bX_compareKey 7 (some .int) :: wAll) { frames := 1, cells := 0, slots := 0, locals := 32 } (va_Pc [.ref (a 0), .int (nI q), .ref (a 4), .int (nI t)] (fun U => va_P (dC, dI) classes (wX a k (nI wn) ms n fk fa sl ks ct sm le gr) U.heap ∧ va_K (dC, dI) classes (kX k) U)) (QcV (.int (lx (fun i => ks (8 * q + i)) (fun i => ks (t + i)) wn 0))) 0 0 (fun _ => False) := by
  refine Met.ofW (cc := bX_compareKey) (maxL := 7) (ret := (some .int)) (by decide) rfl ?_
  intro p e s m args below meth c s₁ B hml hv
  obtain ⟨rfl, hP, hK⟩ := hv
  have hx := B.exec
  have hb := B.bytes
  have hr := B.returns
  have hta : ∀ w ∈ wAll, w.before ([.ref (a 0), .int (nI q), .ref (a 4), .int (nI t)] : List Value).toArray s = true := fun w h => atoms_spec (ws := (Cond.code yX_compareKey bX_compareKey 7 (some .int) :: wAll)) B.pre w (List.mem_cons_of_mem _ h)
  have hown : s.vm.findClass "GroupRows" = some m.cls := findClass_of_methodNamed B.named
  have hlocks := B.notSynchronized
  have hP : va_P (dC, dI) classes (wX a k (nI wn) ms n fk fa sl ks ct sm le gr) s.heap := hP
  have hl := lv_entry ([.ref (a 0), .int (nI q), .ref (a 4), .int (nI t)]) (n := 7) (Nat.le_of_ble_eq_true rfl)
  rw [lg_entry_eq]
  generalize (lg_sl ([.ref (a 0), .int (nI q), .ref (a 4), .int (nI t)]) ++ List.replicate (7 - (lg_sl ([.ref (a 0), .int (nI q), .ref (a 4), .int (nI t)])).length) Slot.unset).toArray = ls at hl ⊢
  have hl : lv_has ls 7 [(0, .ref (a 0)), (1, .int (nI q)), (2, .ref (a 4)), (3, .int (nI t))] := hl
  refine lv_iload_n hx hb dX_compareKey_0 rfl (lv_at hl 1 rfl) ?_
  refine lv_bipush (v := 8) hx hb dX_compareKey_1 (by decide) ?_
  refine lv_imul hx hb dX_compareKey_3 ?_
  refine gi_as (y := nI (8 * q)) (gi_mul8 _) ?_
  refine lv_istore (lv' := [(4, .int (nI (8 * q))), (0, .ref (a 0)), (1, .int (nI q)), (2, .ref (a 4)), (3, .int (nI t))]) hx hb dX_compareKey_4 hl (by decide) rfl (fun ls hl => ?_)
  refine lv_iconst (v := 0) hx hb dX_compareKey_6 (by decide) ?_
  refine gi_as (y := nI 0) (nI_0.symm) ?_
  refine lv_istore (lv' := [(5, .int (nI 0)), (4, .int (nI (8 * q))), (0, .ref (a 0)), (1, .int (nI q)), (2, .ref (a 4)), (3, .int (nI t))]) hx hb dX_compareKey_7 hl (by decide) rfl (fun ls hl => ?_)
  have loop : ∀ (kk i : Nat), i + kk = wn → lx (fun i => ks (8 * q + i)) (fun i => ks (t + i)) wn 0 = lx (fun i => ks (8 * q + i)) (fun i => ks (t + i)) kk i → ∀ (ls : Array Slot), lv_has ls 7 [(5, .int (nI i)), (4, .int (nI (8 * q))), (0, .ref (a 0)), (1, .int (nI q)), (2, .ref (a 4)), (3, .int (nI t))] → W p l e (headSpec (Cond.code yX_compareKey bX_compareKey 7 (some .int) :: wAll) { frames := 1, cells := 0, slots := 0, locals := 32 }).room s m ([.ref (a 0), .int (nI q), .ref (a 4), .int (nI t)] : List Value).toArray below meth c s.heap [] 0 0 (MQ below (QcV (.int (lx (fun i => ks (8 * q + i)) (fun i => ks (t + i)) wn 0))) ([.ref (a 0), .int (nI q), .ref (a 4), .int (nI t)] : List Value).toArray s 0 0 (fun _ => False)) (F0 m 9 ls []) := by
    intro kk
    induction kk with
    | zero =>
      intro i hi hlx ls hl
      refine lv_iload hx hb dX_compareKey_9 (lv_at hl 0 rfl) ?_
      refine lv_aload_n hx hb dX_compareKey_11 rfl (lv_at hl 2 rfl) ?_
      refine va_get (D := (dC, dI)) (ci := 0) (v := .int (nI wn)) (C := "GroupRows") (T := FX) (N := 11) hx hb hta inX hown hK hP 0 rfl rfl 0 (by decide) (hta _ w19) (fun _ h9 => h9) rfl dX_compareKey_12 ?_
      refine lv_icmp_ge (tgt := 53) hx hb dX_compareKey_15 (by decide) (fun h1 => ?_) (fun h1 => ?_)
      · skip
        refine lv_iconst (v := 0) hx hb dX_compareKey_53 (by decide) ?_
        exact W.iret hx hb hr (fun t9 ht9 hW9 => ⟨congrArg (fun z => Outcome.returned (some (Value.int z))) (hlx.symm), ht9⟩) (fun _ h => by cases h) dX_compareKey_54
      · skip
        exact absurd (nI_le (by omega) (by omega)) h1
    | succ kk ih =>
      intro i hi hlx ls hl
      refine lv_iload hx hb dX_compareKey_9 (lv_at hl 0 rfl) ?_
      refine lv_aload_n hx hb dX_compareKey_11 rfl (lv_at hl 2 rfl) ?_
      refine va_get (D := (dC, dI)) (ci := 0) (v := .int (nI wn)) (C := "GroupRows") (T := FX) (N := 11) hx hb hta inX hown hK hP 0 rfl rfl 0 (by decide) (hta _ w19) (fun _ h9 => h9) rfl dX_compareKey_12 ?_
      refine lv_icmp_ge (tgt := 53) hx hb dX_compareKey_15 (by decide) (fun h1 => ?_) (fun h1 => ?_)
      · skip
        exact absurd h1 (nI_ge (a := i) (by omega) (by omega))
      · skip
        refine lv_aload_n hx hb dX_compareKey_18 rfl (lv_at hl 2 rfl) ?_
        refine va_get (D := (dC, dI)) (ci := 0) (v := .ref (a 4)) (C := "GroupRows") (T := FX) (N := 11) hx hb hta inX hown hK hP 0 rfl rfl 6 (by decide) (hta _ w25) (fun _ h9 => h9) rfl dX_compareKey_19 ?_
        refine lv_iload hx hb dX_compareKey_22 (lv_at hl 1 rfl) ?_
        refine lv_iload hx hb dX_compareKey_24 (lv_at hl 0 rfl) ?_
        refine lv_iadd hx hb dX_compareKey_26 ?_
        refine gi_as (y := nI ((8 * q) + i)) (nI_add _ _) ?_
        refine gi_iald hx hb hK hP 4 3 rfl rfl (k := ((8 * q) + i)) (by omega) (by decide) dX_compareKey_27 ?_
        refine lv_aload_n hx hb dX_compareKey_28 rfl (lv_at hl 4 rfl) ?_
        refine lv_iload_n hx hb dX_compareKey_29 rfl (lv_at hl 5 rfl) ?_
        refine lv_iload hx hb dX_compareKey_30 (lv_at hl 0 rfl) ?_
        refine lv_iadd hx hb dX_compareKey_32 ?_
        refine gi_as (y := nI (t + i)) (nI_add _ _) ?_
        refine gi_iald hx hb hK hP 4 3 rfl rfl (k := (t + i)) (by omega) (by decide) dX_compareKey_33 ?_
        refine gi_callR (v := .int (if (ks (8 * q + i)) < (ks (t + i)) then (-1) else if (ks (8 * q + i)) = (ks (t + i)) then 0 else 1)) (W.runS (As := [.int (ks ((8 * q) + i)), .int (ks (t + i))]) (rest := []) ⟨hx, hb, hml, hown, hta⟩ (c_JIcompare l (ks (8 * q + i)) (ks (t + i))) (va_cwS 2 hta (gS w71 w72 w8 w73) rfl rfl rfl (by decide +kernel) ⟨Nat.le_of_ble_eq_true rfl, Nat.le_of_ble_eq_true rfl⟩) ⟨gb_T, fun U hU hW => ⟨rfl, trivial⟩⟩ rfl rfl hl.1 rfl (lv_room (Nat.le_of_ble_eq_true rfl)) dX_compareKey_34 ⟨Nat.le_of_ble_eq_true rfl, Nat.le_of_ble_eq_true rfl⟩) ?_
        refine lv_topi (fun ov eov => ?_)
        refine lv_istore (lv' := [(6, .int ov), (5, .int (nI i)), (4, .int (nI (8 * q))), (0, .ref (a 0)), (1, .int (nI q)), (2, .ref (a 4)), (3, .int (nI t))]) hx hb dX_compareKey_37 hl (by decide) rfl (fun ls hl => ?_)
        refine lv_iload hx hb dX_compareKey_39 (lv_at hl 0 rfl) ?_
        refine lv_if_eq (tgt := 47) hx hb dX_compareKey_41 (by decide) (fun h2 => ?_) (fun h2 => ?_)
        · skip
          have he : (ks (8 * q + i)) = (ks (t + i)) := by
            rcases i32_tri (ks (8 * q + i)) (ks (t + i)) with h | h | h
            · rw [eov, if_pos h] at h2; exact absurd h2 (by decide)
            · exact h
            · rw [eov, if_neg (i32_lt_asymm h), if_neg (fun q => by rw [q] at h; exact i32_lt_irr _ h)] at h2; exact absurd h2 (by decide)
          refine lv_iinc (v := (nI (i + 1))) (lv' := [(5, .int (nI (i + 1))), (6, .int ov), (4, .int (nI (8 * q))), (0, .ref (a 0)), (1, .int (nI q)), (2, .ref (a 4)), (3, .int (nI t))]) hx hb dX_compareKey_47 hl (k := 1) rfl (nI_1 _) (by decide) rfl (fun ls hl => ?_)
          refine lv_goto (tgt := 9) hx hb dX_compareKey_50 (by decide) ?_
          have hl := lv_sub hl [0, 2, 3, 4, 5, 6] rfl
          have hl : lv_has ls 7 [(5, .int (nI (i + 1))), (4, .int (nI (8 * q))), (0, .ref (a 0)), (1, .int (nI q)), (2, .ref (a 4)), (3, .int (nI t))] := hl
          exact ih (i + 1) (by omega) (hlx.trans (by simp only [lx, he, if_true, if_neg (i32_lt_irr _)])) ls hl
        · skip
          refine lv_iload hx hb dX_compareKey_44 (lv_at hl 0 rfl) ?_
          exact W.iret hx hb hr (fun t9 ht9 hW9 => ⟨congrArg (fun z => Outcome.returned (some (Value.int z))) (by
    rw [hlx, eov]; simp only [lx]
    by_cases q1 : (ks (8 * q + i)) < (ks (t + i))
    · rw [if_pos q1, if_pos q1]
    · by_cases q2 : (ks (8 * q + i)) = (ks (t + i))
      · exact absurd (by rw [eov, if_neg q1, if_pos q2]) h2
      · rw [if_neg q1, if_neg q1, if_neg q2, if_neg q2]), ht9⟩) (fun _ h => by cases h) dX_compareKey_46
  have hl := lv_sub hl [0, 1, 2, 3, 4, 5] rfl
  have hl : lv_has ls 7 [(5, .int (nI 0)), (4, .int (nI (8 * q))), (0, .ref (a 0)), (1, .int (nI q)), (2, .ref (a 4)), (3, .int (nI t))] := hl
  exact loop wn 0 (by omega) rfl ls hl
