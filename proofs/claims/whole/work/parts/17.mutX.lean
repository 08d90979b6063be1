set_option maxHeartbeats 4000000 in
set_option maxRecDepth 100000 in
/-- insertSlot: the slot comes in at the place -/
theorem c_insertSlot (l : Launch) (dC : Nat → ClassId) (dI : Nat → Nat → Nat) (a : Nat → Nat) (k : Nat → ClassId) (w ms n : Int32) (fk : Nat → Int32) (fa : Nat → Int64) (sl ks : Nat → Int32) (ct sm le gr : Nat → Int64) (v : Int32) (pl am : Nat) (h1 : pl ≤ am) (h2 : am < 1000) (sz : Nat)  : Met l yX_insertSlot (Cond.code yX_insertSlot bX_insertSlot 4 none :: wAll) { frames := 1, cells := 0, slots := 0, locals := 64 } (va_Pc [.ref (a 0), .int v, .int (nI pl), .int (nI am)] (fun U => U.heap.size = sz ∧ va_P (dC, dI) classes (wX a k w ms n fk fa sl ks ct sm le gr) U.heap ∧ va_K (dC, dI) classes (kX k) U ∧ va_D (fun _ => True) (wX a k w ms n fk fa sl ks ct sm le gr))) (va_Qv (fun _ : Unit => True) (fun (_ : Unit) (t9 : State) => va_P (dC, dI) classes (wX a k w ms n fk fa (insL sl pl am v) ks ct sm le gr) t9.heap ∧ va_K (dC, dI) classes (kX k) t9 ∧ va_D (va_A (wX a k w ms n fk fa sl ks ct sm le gr) sz) (wX a k w ms n fk fa (insL sl pl am v) ks ct sm le gr)) (va_A (wX a k w ms n fk fa sl ks ct sm le gr) sz)) 0 0 (va_A (wX a k w ms n fk fa sl ks ct sm le gr) sz) := by
  refine Met.ofW (cc := bX_insertSlot) (maxL := 4) (ret := none) (by decide) rfl ?_
  intro p e s m args below meth c s₁ B hml hv
  obtain ⟨rfl, hsz, hP, hK, hD0⟩ := hv
  have hx := B.exec
  have hb := B.bytes
  have hr := B.returns
  have hta : ∀ w ∈ wAll, w.before ([.ref (a 0), .int v, .int (nI pl), .int (nI am)] : List Value).toArray s = true := fun w h => atoms_spec (ws := (Cond.code yX_insertSlot bX_insertSlot 4 none :: wAll)) B.pre w (List.mem_cons_of_mem _ h)
  have hown : s.vm.findClass "GroupRows" = some m.cls := findClass_of_methodNamed B.named
  have hlocks := B.notSynchronized
  subst hsz
  have hD := hD0.self (sz := s.heap.size)
  generalize hAe : va_A (wX a k w ms n fk fa sl ks ct sm le gr) s.heap.size = A at hD ⊢
  have hA : ∀ q : Nat, s.heap.size ≤ q → A q := fun q h => by rw [← hAe]; exact Or.inr h
  have hS : va_S A s.heap s.heap [] := va_S.rf
  have hP : va_P (dC, dI) classes (wX a k w ms n fk fa sl ks ct sm le gr) s.heap := hP
  have hl := lv_entry ([.ref (a 0), .int v, .int (nI pl), .int (nI am)]) (n := 4) (Nat.le_of_ble_eq_true rfl)
  rw [lg_entry_eq]
  generalize (lg_sl ([.ref (a 0), .int v, .int (nI pl), .int (nI am)]) ++ List.replicate (4 - (lg_sl ([.ref (a 0), .int v, .int (nI pl), .int (nI am)])).length) Slot.unset).toArray = ls at hl ⊢
  have hl : lv_has ls 4 [(0, .ref (a 0)), (1, .int v), (2, .int (nI pl)), (3, .int (nI am))] := hl
  refine lv_aload_n hx hb dX_insertSlot_0 rfl (lv_at hl 0 rfl) ?_
  refine va_get (D := (dC, dI)) (ci := 0) (v := .ref (a 3)) (C := "GroupRows") (T := FX) (N := 11) hx hb hta inX hown hK hP 0 rfl rfl 5 (by decide) (hta _ w24) (fun _ h9 => h9) rfl dX_insertSlot_1 ?_
  refine lv_iload_n hx hb dX_insertSlot_4 rfl (lv_at hl 2 rfl) ?_
  refine lv_aload_n hx hb dX_insertSlot_5 rfl (lv_at hl 0 rfl) ?_
  refine va_get (D := (dC, dI)) (ci := 0) (v := .ref (a 3)) (C := "GroupRows") (T := FX) (N := 11) hx hb hta inX hown hK hP 0 rfl rfl 5 (by decide) (hta _ w24) (fun _ h9 => h9) rfl dX_insertSlot_6 ?_
  refine lv_iload_n hx hb dX_insertSlot_9 rfl (lv_at hl 2 rfl) ?_
  refine lv_iconst (v := 1) hx hb dX_insertSlot_10 (by decide) ?_
  refine lv_iadd hx hb dX_insertSlot_11 ?_
  refine gi_as (y := nI (pl + 1)) (nI_1 _) ?_
  refine lv_iload_n hx hb dX_insertSlot_12 rfl (lv_at hl 3 rfl) ?_
  refine lv_iload_n hx hb dX_insertSlot_13 rfl (lv_at hl 2 rfl) ?_
  refine lv_isub hx hb dX_insertSlot_14 ?_
  refine gi_as (y := nI (am - pl)) (pk_sub h1) ?_
  refine gi_copyi (x := pl) (y := (pl + 1)) (z := (am - pl)) hx hb (hml.trans hl.1.symm) hown (hta _ w204) (hta _ w206) (hta _ w205) (hta _ w9) hK hP hD hS 3 3 2 2 rfl rfl rfl rfl (by omega) (by omega) (by decide) (by decide) (by decide) (by decide +kernel) dX_insertSlot_15 (fun H locs hP hD hS => ?_)
  have hP : va_P (dC, dI) classes (wX a k w ms n fk fa (va_cpy sl sl pl (pl + 1) (am - pl)) ks ct sm le gr) H := hP
  have hD : va_D A (wX a k w ms n fk fa (va_cpy sl sl pl (pl + 1) (am - pl)) ks ct sm le gr) := hD
  refine lv_aload_n hx hb dX_insertSlot_18 rfl (lv_at hl 0 rfl) ?_
  refine va_get (D := (dC, dI)) (ci := 0) (v := .ref (a 3)) (C := "GroupRows") (T := FX) (N := 11) hx hb hta inX hown hK hP 0 rfl rfl 5 (by decide) (hta _ w24) (fun _ h9 => h9) rfl dX_insertSlot_19 ?_
  refine lv_iload_n hx hb dX_insertSlot_22 rfl (lv_at hl 2 rfl) ?_
  refine lv_iload_n hx hb dX_insertSlot_23 rfl (lv_at hl 1 rfl) ?_
  refine gi_iast hx hb hK hP hD hS 3 2 rfl rfl (k := pl) (by omega) (by decide) dX_insertSlot_24 (fun H locs hP hD hS => ?_)
  have hP : va_P (dC, dI) classes (wX a k w ms n fk fa (upd (va_cpy sl sl pl (pl + 1) (am - pl)) pl v) ks ct sm le gr) H := hP
  have hD : va_D A (wX a k w ms n fk fa (upd (va_cpy sl sl pl (pl + 1) (am - pl)) pl v) ks ct sm le gr) := hD
  rw [insL_is h1] at hP hD
  have hP : va_P (dC, dI) classes (wX a k w ms n fk fa (insL sl pl am v) ks ct sm le gr) H := hP
  have hD : va_D A (wX a k w ms n fk fa (insL sl pl am v) ks ct sm le gr) := hD
  exact W.vret hx hb hr (fun t9 ht9 hW9 => ⟨⟨(), rfl, trivial, by rw [ht9]; exact hP, va_K.moved hW9.alike hK, hD⟩, hS.F ht9⟩) hS.2.2 dX_insertSlot_25
set_option maxHeartbeats 4000000 in
set_option maxRecDepth 100000 in
/-- stepFact -/
theorem c_stepFact (l : Launch) (dC : Nat → ClassId) (dI : Nat → Nat → Nat) (a : Nat → Nat) (k : Nat → ClassId) (mn : Nat) (w n : Int32) (fk : Nat → Int32) (fa : Nat → Int64) (sl ks : Nat → Int32) (ct sm le gr : Nat → Int64) (i : Nat) (st : Int32) (hi : i < 8) (hmn : mn ≤ 8) (sz : Nat)  : Met l yX_stepFact (Cond.code yX_stepFact bX_stepFact 4 none :: wAll) rm0 (va_Pc [.ref (a 0), .int (nI i), .int st] (fun U => U.heap.size = sz ∧ va_P (dC, dI) classes (wX a k w (nI mn) n fk fa sl ks ct sm le gr) U.heap ∧ va_K (dC, dI) classes (kX k) U ∧ va_D (fun _ => True) (wX a k w (nI mn) n fk fa sl ks ct sm le gr))) (va_Qv (fun _ : Unit => True) (fun (_ : Unit) (t9 : State) => va_P (dC, dI) classes (wX a k w (nI mn) n (upd fk i (fk i + st)) (upTo (fun _ x => x + st.toInt64) 0 fa mn) sl ks ct sm le gr) t9.heap ∧ va_K (dC, dI) classes (kX k) t9 ∧ va_D (va_A (wX a k w (nI mn) n fk fa sl ks ct sm le gr) sz) (wX a k w (nI mn) n (upd fk i (fk i + st)) (upTo (fun _ x => x + st.toInt64) 0 fa mn) sl ks ct sm le gr)) (va_A (wX a k w (nI mn) n fk fa sl ks ct sm le gr) sz)) 0 0 (va_A (wX a k w (nI mn) n fk fa sl ks ct sm le gr) sz) := by
  refine Met.ofW (cc := bX_stepFact) (maxL := 4) (ret := none) (by decide) rfl ?_
  intro p e s m args below meth c s₁ B hml hv
  obtain ⟨rfl, hsz, hP, hK, hD0⟩ := hv
  have hx := B.exec
  have hb := B.bytes
  have hr := B.returns
  have hta : ∀ w ∈ wAll, w.before ([.ref (a 0), .int (nI i), .int st] : List Value).toArray s = true := fun w h => atoms_spec (ws := (Cond.code yX_stepFact bX_stepFact 4 none :: wAll)) B.pre w (List.mem_cons_of_mem _ h)
  have hown : s.vm.findClass "GroupRows" = some m.cls := findClass_of_methodNamed B.named
  have hlocks := B.notSynchronized
  subst hsz
  have hD := hD0.self (sz := s.heap.size)
  generalize hAe : va_A (wX a k w (nI mn) n fk fa sl ks ct sm le gr) s.heap.size = A at hD ⊢
  have hA : ∀ q : Nat, s.heap.size ≤ q → A q := fun q h => by rw [← hAe]; exact Or.inr h
  have hS : va_S A s.heap s.heap [] := va_S.rf
  have hP : va_P (dC, dI) classes (wX a k w (nI mn) n fk fa sl ks ct sm le gr) s.heap := hP
  have hl := lv_entry ([.ref (a 0), .int (nI i), .int st]) (n := 4) (Nat.le_of_ble_eq_true rfl)
  rw [lg_entry_eq]
  generalize (lg_sl ([.ref (a 0), .int (nI i), .int st]) ++ List.replicate (4 - (lg_sl ([.ref (a 0), .int (nI i), .int st])).length) Slot.unset).toArray = ls at hl ⊢
  have hl : lv_has ls 4 [(0, .ref (a 0)), (1, .int (nI i)), (2, .int st)] := hl
  refine lv_aload_n hx hb dX_stepFact_0 rfl (lv_at hl 0 rfl) ?_
  refine va_get (D := (dC, dI)) (ci := 0) (v := .ref (a 1)) (C := "GroupRows") (T := FX) (N := 11) hx hb hta inX hown hK hP 0 rfl rfl 3 (by decide) (hta _ w22) (fun _ h9 => h9) rfl dX_stepFact_1 ?_
  refine lv_iload_n hx hb dX_stepFact_4 rfl (lv_at hl 1 rfl) ?_
  refine lv_dup2_11 hx hb dX_stepFact_5 rfl rfl ?_
  refine gi_iald hx hb hK hP 1 0 rfl rfl (k := i) (by omega) (by decide) dX_stepFact_6 ?_
  refine lv_iload_n hx hb dX_stepFact_7 rfl (lv_at hl 2 rfl) ?_
  refine lv_iadd hx hb dX_stepFact_8 ?_
  refine gi_iast hx hb hK hP hD hS 1 0 rfl rfl (k := i) (by omega) (by decide) dX_stepFact_9 (fun H locs hP hD hS => ?_)
  have hP : va_P (dC, dI) classes (wX a k w (nI mn) n (upd fk i ((fk i) + st)) fa sl ks ct sm le gr) H := hP
  have hD : va_D A (wX a k w (nI mn) n (upd fk i ((fk i) + st)) fa sl ks ct sm le gr) := hD
  refine lv_iconst (v := 0) hx hb dX_stepFact_10 (by decide) ?_
  refine gi_as (y := nI 0) (nI_0.symm) ?_
  refine lv_istore_n (lv' := [(3, .int (nI 0)), (0, .ref (a 0)), (1, .int (nI i)), (2, .int st)]) hx hb dX_stepFact_11 rfl hl (by decide) rfl (fun ls hl => ?_)
  have loop : ∀ (kk j : Nat), j + kk = mn → ∀ (H : Heap) (locs : List Loc), va_P (dC, dI) classes (wX a k w (nI mn) n (upd fk i (fk i + st)) (upTo (fun _ x => x + st.toInt64) 0 fa j) sl ks ct sm le gr) H → va_D A (wX a k w (nI mn) n (upd fk i (fk i + st)) (upTo (fun _ x => x + st.toInt64) 0 fa j) sl ks ct sm le gr) → va_S A s.heap H locs → ∀ (ls : Array Slot), lv_has ls 4 [(3, .int (nI j)), (0, .ref (a 0)), (2, .int st)] → W p l e (headSpec (Cond.code yX_stepFact bX_stepFact 4 none :: wAll) rm0).room s m ([.ref (a 0), .int (nI i), .int st] : List Value).toArray below meth c H locs 0 0 (MQ below (va_Qv (fun _ : Unit => True) (fun (_ : Unit) (t9 : State) => va_P (dC, dI) classes (wX a k w (nI mn) n (upd fk i (fk i + st)) (upTo (fun _ x => x + st.toInt64) 0 fa mn) sl ks ct sm le gr) t9.heap ∧ va_K (dC, dI) classes (kX k) t9 ∧ va_D A (wX a k w (nI mn) n (upd fk i (fk i + st)) (upTo (fun _ x => x + st.toInt64) 0 fa mn) sl ks ct sm le gr)) A) ([.ref (a 0), .int (nI i), .int st] : List Value).toArray s 0 0 A) (F0 m 12 ls []) := by
    intro kk
    induction kk with
    | zero =>
      intro j hj H locs hP hD hS ls hl
      refine lv_iload_n hx hb dX_stepFact_12 rfl (lv_at hl 0 rfl) ?_
      refine lv_aload_n hx hb dX_stepFact_13 rfl (lv_at hl 1 rfl) ?_
      refine va_get (D := (dC, dI)) (ci := 0) (v := .int (nI mn)) (C := "GroupRows") (T := FX) (N := 11) hx hb hta inX hown hK hP 0 rfl rfl 1 (by decide) (hta _ w20) (fun _ h9 => h9) rfl dX_stepFact_14 ?_
      refine lv_icmp_ge (tgt := 37) hx hb dX_stepFact_17 (by decide) (fun h1 => ?_) (fun h1 => ?_)
      · skip
        have hj : mn = j := by omega
        subst hj
        have hP : va_P (dC, dI) classes (wX a k w (nI mn) n (upd fk i (fk i + st)) (upTo (fun _ x => x + st.toInt64) 0 fa mn) sl ks ct sm le gr) H := hP
        have hD : va_D A (wX a k w (nI mn) n (upd fk i (fk i + st)) (upTo (fun _ x => x + st.toInt64) 0 fa mn) sl ks ct sm le gr) := hD
        exact W.vret hx hb hr (fun t9 ht9 hW9 => ⟨⟨(), rfl, trivial, by rw [ht9]; exact hP, va_K.moved hW9.alike hK, hD⟩, hS.F ht9⟩) hS.2.2 dX_stepFact_37
      · skip
        exact absurd (nI_le (by omega) (by omega)) h1
    | succ kk ih =>
      intro j hj H locs hP hD hS ls hl
      refine lv_iload_n hx hb dX_stepFact_12 rfl (lv_at hl 0 rfl) ?_
      refine lv_aload_n hx hb dX_stepFact_13 rfl (lv_at hl 1 rfl) ?_
      refine va_get (D := (dC, dI)) (ci := 0) (v := .int (nI mn)) (C := "GroupRows") (T := FX) (N := 11) hx hb hta inX hown hK hP 0 rfl rfl 1 (by decide) (hta _ w20) (fun _ h9 => h9) rfl dX_stepFact_14 ?_
      refine lv_icmp_ge (tgt := 37) hx hb dX_stepFact_17 (by decide) (fun h1 => ?_) (fun h1 => ?_)
      · skip
        exact absurd h1 (nI_ge (a := j) (by omega) (by omega))
      · skip
        have e0 : j = 0 + j := by omega
        refine lv_aload_n hx hb dX_stepFact_20 rfl (lv_at hl 1 rfl) ?_
        refine va_get (D := (dC, dI)) (ci := 0) (v := .ref (a 2)) (C := "GroupRows") (T := FX) (N := 11) hx hb hta inX hown hK hP 0 rfl rfl 4 (by decide) (hta _ w23) (fun _ h9 => h9) rfl dX_stepFact_21 ?_
        refine lv_iload_n hx hb dX_stepFact_24 rfl (lv_at hl 0 rfl) ?_
        refine gi_as (y := nI (0 + j)) (by rw [← e0]) ?_
        refine lv_dup2_11 hx hb dX_stepFact_25 rfl rfl ?_
        refine gi_lald hx hb hK hP 2 1 rfl rfl (k := (0 + j)) (by omega) (by decide) dX_stepFact_26 ?_
        refine lv_iload_n hx hb dX_stepFact_27 rfl (lv_at hl 2 rfl) ?_
        refine lv_i2l (v := st.toInt64) hx hb dX_stepFact_28 rfl ?_
        refine lv_ladd hx hb dX_stepFact_29 ?_
        refine gi_last hx hb hK hP hD hS 2 1 rfl rfl (k := (0 + j)) (by omega) (by decide) dX_stepFact_30 (fun H locs hP hD hS => ?_)
        have hP : va_P (dC, dI) classes (wX a k w (nI mn) n (upd fk i (fk i + st)) (vp_updL (upTo (fun _ x => x + st.toInt64) 0 fa j) (0 + j) (((upTo (fun _ x => x + st.toInt64) 0 fa j) (0 + j)) + (st.toInt64))) sl ks ct sm le gr) H := hP
        have hD : va_D A (wX a k w (nI mn) n (upd fk i (fk i + st)) (vp_updL (upTo (fun _ x => x + st.toInt64) 0 fa j) (0 + j) (((upTo (fun _ x => x + st.toInt64) 0 fa j) (0 + j)) + (st.toInt64))) sl ks ct sm le gr) := hD
        refine lv_iinc (v := (nI (j + 1))) (lv' := [(3, .int (nI (j + 1))), (0, .ref (a 0)), (2, .int st)]) hx hb dX_stepFact_31 hl (k := 0) rfl (nI_1 _) (by decide) rfl (fun ls hl => ?_)
        refine lv_goto (tgt := 12) hx hb dX_stepFact_34 (by decide) ?_
        have hl := lv_sub hl [0, 1, 2] rfl
        have hl : lv_has ls 4 [(3, .int (nI (j + 1))), (0, .ref (a 0)), (2, .int st)] := hl
        exact ih (j + 1) (by omega) H locs hP hD hS ls hl
  have hl := lv_sub hl [0, 1, 3] rfl
  have hl : lv_has ls 4 [(3, .int (nI 0)), (0, .ref (a 0)), (2, .int st)] := hl
  exact loop mn 0 (by omega) H locs hP hD hS ls hl
set_option maxHeartbeats 4000000 in
set_option maxRecDepth 100000 in
/-- joinFact -/
theorem c_joinFact (l : Launch) (dC : Nat → ClassId) (dI : Nat → Nat → Nat) (a : Nat → Nat) (k : Nat → ClassId) (mn : Nat) (w n : Int32) (fk : Nat → Int32) (fa : Nat → Int64) (sl ks : Nat → Int32) (ct sm le gr : Nat → Int64) (q : Nat) (nn : Int32) (hq : q < 1000) (hmn : mn ≤ 8) (sz : Nat)  : Met l yX_joinFact (Cond.code yX_joinFact bX_joinFact 7 none :: wAll) { frames := 1, cells := 0, slots := 0, locals := 64 } (va_Pc [.ref (a 0), .int (nI q), .int nn] (fun U => U.heap.size = sz ∧ va_P (dC, dI) classes (wX a k w (nI mn) n fk fa sl ks ct sm le gr) U.heap ∧ va_K (dC, dI) classes (kX k) U ∧ va_D (fun _ => True) (wX a k w (nI mn) n fk fa sl ks ct sm le gr))) (va_Qv (fun _ : Unit => True) (fun (_ : Unit) (t9 : State) => va_P (dC, dI) classes (wX a k w (nI mn) n fk fa sl ks (vp_updL ct q (ct q + nn.toInt64)) (upTo (fun m x => x + fa m * nn.toInt64) (8 * q) sm mn) (upTo (fun m x => if fa m < x then fa m else x) (8 * q) le mn) (upTo (fun m x => if fa m < x then x else fa m) (8 * q) gr mn)) t9.heap ∧ va_K (dC, dI) classes (kX k) t9 ∧ va_D (va_A (wX a k w (nI mn) n fk fa sl ks ct sm le gr) sz) (wX a k w (nI mn) n fk fa sl ks (vp_updL ct q (ct q + nn.toInt64)) (upTo (fun m x => x + fa m * nn.toInt64) (8 * q) sm mn) (upTo (fun m x => if fa m < x then fa m else x) (8 * q) le mn) (upTo (fun m x => if fa m < x then x else fa m) (8 * q) gr mn))) (va_A (wX a k w (nI mn) n fk fa sl ks ct sm le gr) sz)) 0 0 (va_A (wX a k w (nI mn) n fk fa sl ks ct sm le gr) sz) := by
  refine Met.ofW (cc := bX_joinFact) (maxL := 7) (ret := none) (by decide) rfl ?_
  intro p e s m args below meth c s₁ B hml hv
  obtain ⟨rfl, hsz, hP, hK, hD0⟩ := hv
  have hx := B.exec
  have hb := B.bytes
  have hr := B.returns
  have hta : ∀ w ∈ wAll, w.before ([.ref (a 0), .int (nI q), .int nn] : List Value).toArray s = true := fun w h => atoms_spec (ws := (Cond.code yX_joinFact bX_joinFact 7 none :: wAll)) B.pre w (List.mem_cons_of_mem _ h)
  have hown : s.vm.findClass "GroupRows" = some m.cls := findClass_of_methodNamed B.named
  have hlocks := B.notSynchronized
  subst hsz
  have hD := hD0.self (sz := s.heap.size)
  generalize hAe : va_A (wX a k w (nI mn) n fk fa sl ks ct sm le gr) s.heap.size = A at hD ⊢
  have hA : ∀ q : Nat, s.heap.size ≤ q → A q := fun q h => by rw [← hAe]; exact Or.inr h
  have hS : va_S A s.heap s.heap [] := va_S.rf
  have hP : va_P (dC, dI) classes (wX a k w (nI mn) n fk fa sl ks ct sm le gr) s.heap := hP
  have hl := lv_entry ([.ref (a 0), .int (nI q), .int nn]) (n := 7) (Nat.le_of_ble_eq_true rfl)
  rw [lg_entry_eq]
  generalize (lg_sl ([.ref (a 0), .int (nI q), .int nn]) ++ List.replicate (7 - (lg_sl ([.ref (a 0), .int (nI q), .int nn])).length) Slot.unset).toArray = ls at hl ⊢
  have hl : lv_has ls 7 [(0, .ref (a 0)), (1, .int (nI q)), (2, .int nn)] := hl
  refine lv_aload_n hx hb dX_joinFact_0 rfl (lv_at hl 0 rfl) ?_
  refine va_get (D := (dC, dI)) (ci := 0) (v := .ref (a 5)) (C := "GroupRows") (T := FX) (N := 11) hx hb hta inX hown hK hP 0 rfl rfl 7 (by decide) (hta _ w26) (fun _ h9 => h9) rfl dX_joinFact_1 ?_
  refine lv_iload_n hx hb dX_joinFact_4 rfl (lv_at hl 1 rfl) ?_
  refine lv_dup2_11 hx hb dX_joinFact_5 rfl rfl ?_
  refine gi_lald hx hb hK hP 5 4 rfl rfl (k := q) (by omega) (by decide) dX_joinFact_6 ?_
  refine lv_iload_n hx hb dX_joinFact_7 rfl (lv_at hl 2 rfl) ?_
  refine lv_i2l (v := nn.toInt64) hx hb dX_joinFact_8 rfl ?_
  refine lv_ladd hx hb dX_joinFact_9 ?_
  refine gi_last hx hb hK hP hD hS 5 4 rfl rfl (k := q) (by omega) (by decide) dX_joinFact_10 (fun H locs hP hD hS => ?_)
  have hP : va_P (dC, dI) classes (wX a k w (nI mn) n fk fa sl ks (vp_updL ct q ((ct q) + (nn.toInt64))) sm le gr) H := hP
  have hD : va_D A (wX a k w (nI mn) n fk fa sl ks (vp_updL ct q ((ct q) + (nn.toInt64))) sm le gr) := hD
  refine lv_iload_n hx hb dX_joinFact_11 rfl (lv_at hl 1 rfl) ?_
  refine lv_bipush (v := 8) hx hb dX_joinFact_12 (by decide) ?_
  refine lv_imul hx hb dX_joinFact_14 ?_
  refine gi_as (y := nI (8 * q)) (gi_mul8 _) ?_
  refine lv_istore_n (lv' := [(3, .int (nI (8 * q))), (0, .ref (a 0)), (1, .int (nI q)), (2, .int nn)]) hx hb dX_joinFact_15 rfl hl (by decide) rfl (fun ls hl => ?_)
  refine lv_iconst (v := 0) hx hb dX_joinFact_16 (by decide) ?_
  refine gi_as (y := nI 0) (nI_0.symm) ?_
  refine lv_istore (lv' := [(4, .int (nI 0)), (3, .int (nI (8 * q))), (0, .ref (a 0)), (1, .int (nI q)), (2, .int nn)]) hx hb dX_joinFact_17 hl (by decide) rfl (fun ls hl => ?_)
  have loop : ∀ (kk j : Nat), j + kk = mn → ∀ (H : Heap) (locs : List Loc), va_P (dC, dI) classes (wX a k w (nI mn) n fk fa sl ks (vp_updL ct q (ct q + nn.toInt64)) (upTo (fun m x => x + fa m * nn.toInt64) (8 * q) sm j) (upTo (fun m x => if fa m < x then fa m else x) (8 * q) le j) (upTo (fun m x => if fa m < x then x else fa m) (8 * q) gr j)) H → va_D A (wX a k w (nI mn) n fk fa sl ks (vp_updL ct q (ct q + nn.toInt64)) (upTo (fun m x => x + fa m * nn.toInt64) (8 * q) sm j) (upTo (fun m x => if fa m < x then fa m else x) (8 * q) le j) (upTo (fun m x => if fa m < x then x else fa m) (8 * q) gr j)) → va_S A s.heap H locs → ∀ (ls : Array Slot), lv_has ls 7 [(4, .int (nI j)), (3, .int (nI (8 * q))), (0, .ref (a 0)), (2, .int nn)] → W p l e (headSpec (Cond.code yX_joinFact bX_joinFact 7 none :: wAll) { frames := 1, cells := 0, slots := 0, locals := 64 }).room s m ([.ref (a 0), .int (nI q), .int nn] : List Value).toArray below meth c H locs 0 0 (MQ below (va_Qv (fun _ : Unit => True) (fun (_ : Unit) (t9 : State) => va_P (dC, dI) classes (wX a k w (nI mn) n fk fa sl ks (vp_updL ct q (ct q + nn.toInt64)) (upTo (fun m x => x + fa m * nn.toInt64) (8 * q) sm mn) (upTo (fun m x => if fa m < x then fa m else x) (8 * q) le mn) (upTo (fun m x => if fa m < x then x else fa m) (8 * q) gr mn)) t9.heap ∧ va_K (dC, dI) classes (kX k) t9 ∧ va_D A (wX a k w (nI mn) n fk fa sl ks (vp_updL ct q (ct q + nn.toInt64)) (upTo (fun m x => x + fa m * nn.toInt64) (8 * q) sm mn) (upTo (fun m x => if fa m < x then fa m else x) (8 * q) le mn) (upTo (fun m x => if fa m < x then x else fa m) (8 * q) gr mn))) A) ([.ref (a 0), .int (nI q), .int nn] : List Value).toArray s 0 0 A) (F0 m 19 ls []) := by
    intro kk
    induction kk with
    | zero =>
      intro j hj H locs hP hD hS ls hl
      refine lv_iload hx hb dX_joinFact_19 (lv_at hl 0 rfl) ?_
      refine lv_aload_n hx hb dX_joinFact_21 rfl (lv_at hl 2 rfl) ?_
      refine va_get (D := (dC, dI)) (ci := 0) (v := .int (nI mn)) (C := "GroupRows") (T := FX) (N := 11) hx hb hta inX hown hK hP 0 rfl rfl 1 (by decide) (hta _ w20) (fun _ h9 => h9) rfl dX_joinFact_22 ?_
      refine lv_icmp_ge (tgt := 106) hx hb dX_joinFact_25 (by decide) (fun h1 => ?_) (fun h1 => ?_)
      · skip
        have hj : mn = j := by omega
        subst hj
        have hP : va_P (dC, dI) classes (wX a k w (nI mn) n fk fa sl ks (vp_updL ct q (ct q + nn.toInt64)) (upTo (fun m x => x + fa m * nn.toInt64) (8 * q) sm mn) (upTo (fun m x => if fa m < x then fa m else x) (8 * q) le mn) (upTo (fun m x => if fa m < x then x else fa m) (8 * q) gr mn)) H := hP
        have hD : va_D A (wX a k w (nI mn) n fk fa sl ks (vp_updL ct q (ct q + nn.toInt64)) (upTo (fun m x => x + fa m * nn.toInt64) (8 * q) sm mn) (upTo (fun m x => if fa m < x then fa m else x) (8 * q) le mn) (upTo (fun m x => if fa m < x then x else fa m) (8 * q) gr mn)) := hD
        exact W.vret hx hb hr (fun t9 ht9 hW9 => ⟨⟨(), rfl, trivial, by rw [ht9]; exact hP, va_K.moved hW9.alike hK, hD⟩, hS.F ht9⟩) hS.2.2 dX_joinFact_106
      · skip
        exact absurd (nI_le (by omega) (by omega)) h1
    | succ kk ih =>
      intro j hj H locs hP hD hS ls hl
      refine lv_iload hx hb dX_joinFact_19 (lv_at hl 0 rfl) ?_
      refine lv_aload_n hx hb dX_joinFact_21 rfl (lv_at hl 2 rfl) ?_
      refine va_get (D := (dC, dI)) (ci := 0) (v := .int (nI mn)) (C := "GroupRows") (T := FX) (N := 11) hx hb hta inX hown hK hP 0 rfl rfl 1 (by decide) (hta _ w20) (fun _ h9 => h9) rfl dX_joinFact_22 ?_
      refine lv_icmp_ge (tgt := 106) hx hb dX_joinFact_25 (by decide) (fun h1 => ?_) (fun h1 => ?_)
      · skip
        exact absurd h1 (nI_ge (a := j) (by omega) (by omega))
      · skip
        refine lv_aload_n hx hb dX_joinFact_28 rfl (lv_at hl 2 rfl) ?_
        refine va_get (D := (dC, dI)) (ci := 0) (v := .ref (a 2)) (C := "GroupRows") (T := FX) (N := 11) hx hb hta inX hown hK hP 0 rfl rfl 4 (by decide) (hta _ w23) (fun _ h9 => h9) rfl dX_joinFact_29 ?_
        refine lv_iload hx hb dX_joinFact_32 (lv_at hl 0 rfl) ?_
        refine gi_lald hx hb hK hP 2 1 rfl rfl (k := j) (by omega) (by decide) dX_joinFact_34 ?_
        refine lv_lstore (lv' := [(5, .long (fa j)), (4, .int (nI j)), (3, .int (nI (8 * q))), (0, .ref (a 0)), (2, .int nn)]) hx hb dX_joinFact_35 hl (by decide) rfl (fun ls hl => ?_)
        refine lv_aload_n hx hb dX_joinFact_37 rfl (lv_at hl 3 rfl) ?_
        refine va_get (D := (dC, dI)) (ci := 0) (v := .ref (a 6)) (C := "GroupRows") (T := FX) (N := 11) hx hb hta inX hown hK hP 0 rfl rfl 8 (by decide) (hta _ w27) (fun _ h9 => h9) rfl dX_joinFact_38 ?_
        refine lv_iload_n hx hb dX_joinFact_41 rfl (lv_at hl 2 rfl) ?_
        refine lv_iload hx hb dX_joinFact_42 (lv_at hl 1 rfl) ?_
        refine lv_iadd hx hb dX_joinFact_44 ?_
        refine gi_as (y := nI ((8 * q) + j)) (nI_add _ _) ?_
        refine lv_dup2_11 hx hb dX_joinFact_45 rfl rfl ?_
        refine gi_lald hx hb hK hP 6 5 rfl rfl (k := ((8 * q) + j)) (by omega) (by decide) dX_joinFact_46 ?_
        refine lv_lload hx hb dX_joinFact_47 (lv_at hl 0 rfl) ?_
        refine lv_iload_n hx hb dX_joinFact_49 rfl (lv_at hl 4 rfl) ?_
        refine lv_i2l (v := nn.toInt64) hx hb dX_joinFact_50 rfl ?_
        refine lv_lmul hx hb dX_joinFact_51 ?_
        refine lv_ladd hx hb dX_joinFact_52 ?_
        refine gi_last hx hb hK hP hD hS 6 5 rfl rfl (k := ((8 * q) + j)) (by omega) (by decide) dX_joinFact_53 (fun H locs hP hD hS => ?_)
        have hP : va_P (dC, dI) classes (wX a k w (nI mn) n fk fa sl ks (vp_updL ct q (ct q + nn.toInt64)) (vp_updL (upTo (fun m x => x + fa m * nn.toInt64) (8 * q) sm j) ((8 * q) + j) (((upTo (fun m x => x + fa m * nn.toInt64) (8 * q) sm j) ((8 * q) + j)) + ((fa j) * (nn.toInt64)))) (upTo (fun m x => if fa m < x then fa m else x) (8 * q) le j) (upTo (fun m x => if fa m < x then x else fa m) (8 * q) gr j)) H := hP
        have hD : va_D A (wX a k w (nI mn) n fk fa sl ks (vp_updL ct q (ct q + nn.toInt64)) (vp_updL (upTo (fun m x => x + fa m * nn.toInt64) (8 * q) sm j) ((8 * q) + j) (((upTo (fun m x => x + fa m * nn.toInt64) (8 * q) sm j) ((8 * q) + j)) + ((fa j) * (nn.toInt64)))) (upTo (fun m x => if fa m < x then fa m else x) (8 * q) le j) (upTo (fun m x => if fa m < x then x else fa m) (8 * q) gr j)) := hD
        refine lv_aload_n hx hb dX_joinFact_54 rfl (lv_at hl 3 rfl) ?_
        refine va_get (D := (dC, dI)) (ci := 0) (v := .ref (a 7)) (C := "GroupRows") (T := FX) (N := 11) hx hb hta inX hown hK hP 0 rfl rfl 9 (by decide) (hta _ w28) (fun _ h9 => h9) rfl dX_joinFact_55 ?_
        refine lv_iload_n hx hb dX_joinFact_58 rfl (lv_at hl 2 rfl) ?_
        refine lv_iload hx hb dX_joinFact_59 (lv_at hl 1 rfl) ?_
        refine lv_iadd hx hb dX_joinFact_61 ?_
        refine gi_as (y := nI ((8 * q) + j)) (nI_add _ _) ?_
        refine lv_aload_n hx hb dX_joinFact_62 rfl (lv_at hl 3 rfl) ?_
        refine va_get (D := (dC, dI)) (ci := 0) (v := .ref (a 7)) (C := "GroupRows") (T := FX) (N := 11) hx hb hta inX hown hK hP 0 rfl rfl 9 (by decide) (hta _ w28) (fun _ h9 => h9) rfl dX_joinFact_63 ?_
        refine lv_iload_n hx hb dX_joinFact_66 rfl (lv_at hl 2 rfl) ?_
        refine lv_iload hx hb dX_joinFact_67 (lv_at hl 1 rfl) ?_
        refine lv_iadd hx hb dX_joinFact_69 ?_
        refine gi_as (y := nI ((8 * q) + j)) (nI_add _ _) ?_
        refine gi_lald hx hb hK hP 7 6 rfl rfl (k := ((8 * q) + j)) (by omega) (by decide) dX_joinFact_70 ?_
        refine lv_lload hx hb dX_joinFact_71 (lv_at hl 0 rfl) ?_
        refine va_mmin_long hx hb (hml.trans hl.1.symm) hown (hta _ w211) (hta _ w212) (hta _ w10) (hta _ w213) (Nat.le_of_ble_eq_true rfl) (Nat.le_of_ble_eq_true rfl) (Nat.le_of_ble_eq_true rfl) (Nat.le_of_ble_eq_true rfl) dX_joinFact_73 ?_
        refine gi_last hx hb hK hP hD hS 7 6 rfl rfl (k := ((8 * q) + j)) (by omega) (by decide) dX_joinFact_76 (fun H locs hP hD hS => ?_)
        have hP : va_P (dC, dI) classes (wX a k w (nI mn) n fk fa sl ks (vp_updL ct q (ct q + nn.toInt64)) (vp_updL (upTo (fun m x => x + fa m * nn.toInt64) (8 * q) sm j) ((8 * q) + j) (((upTo (fun m x => x + fa m * nn.toInt64) (8 * q) sm j) ((8 * q) + j)) + ((fa j) * (nn.toInt64)))) (vp_updL (upTo (fun m x => if fa m < x then fa m else x) (8 * q) le j) ((8 * q) + j) (if (fa j) < ((upTo (fun m x => if fa m < x then fa m else x) (8 * q) le j) ((8 * q) + j)) then (fa j) else ((upTo (fun m x => if fa m < x then fa m else x) (8 * q) le j) ((8 * q) + j)))) (upTo (fun m x => if fa m < x then x else fa m) (8 * q) gr j)) H := hP
        have hD : va_D A (wX a k w (nI mn) n fk fa sl ks (vp_updL ct q (ct q + nn.toInt64)) (vp_updL (upTo (fun m x => x + fa m * nn.toInt64) (8 * q) sm j) ((8 * q) + j) (((upTo (fun m x => x + fa m * nn.toInt64) (8 * q) sm j) ((8 * q) + j)) + ((fa j) * (nn.toInt64)))) (vp_updL (upTo (fun m x => if fa m < x then fa m else x) (8 * q) le j) ((8 * q) + j) (if (fa j) < ((upTo (fun m x => if fa m < x then fa m else x) (8 * q) le j) ((8 * q) + j)) then (fa j) else ((upTo (fun m x => if fa m < x then fa m else x) (8 * q) le j) ((8 * q) + j)))) (upTo (fun m x => if fa m < x then x else fa m) (8 * q) gr j)) := hD
        refine lv_aload_n hx hb dX_joinFact_77 rfl (lv_at hl 3 rfl) ?_
        refine va_get (D := (dC, dI)) (ci := 0) (v := .ref (a 8)) (C := "GroupRows") (T := FX) (N := 11) hx hb hta inX hown hK hP 0 rfl rfl 10 (by decide) (hta _ w29) (fun _ h9 => h9) rfl dX_joinFact_78 ?_
        refine lv_iload_n hx hb dX_joinFact_81 rfl (lv_at hl 2 rfl) ?_
        refine lv_iload hx hb dX_joinFact_82 (lv_at hl 1 rfl) ?_
        refine lv_iadd hx hb dX_joinFact_84 ?_
        refine gi_as (y := nI ((8 * q) + j)) (nI_add _ _) ?_
        refine lv_aload_n hx hb dX_joinFact_85 rfl (lv_at hl 3 rfl) ?_
        refine va_get (D := (dC, dI)) (ci := 0) (v := .ref (a 8)) (C := "GroupRows") (T := FX) (N := 11) hx hb hta inX hown hK hP 0 rfl rfl 10 (by decide) (hta _ w29) (fun _ h9 => h9) rfl dX_joinFact_86 ?_
        refine lv_iload_n hx hb dX_joinFact_89 rfl (lv_at hl 2 rfl) ?_
        refine lv_iload hx hb dX_joinFact_90 (lv_at hl 1 rfl) ?_
        refine lv_iadd hx hb dX_joinFact_92 ?_
        refine gi_as (y := nI ((8 * q) + j)) (nI_add _ _) ?_
        refine gi_lald hx hb hK hP 8 7 rfl rfl (k := ((8 * q) + j)) (by omega) (by decide) dX_joinFact_93 ?_
        refine lv_lload hx hb dX_joinFact_94 (lv_at hl 0 rfl) ?_
        refine va_mmax_long hx hb (hml.trans hl.1.symm) hown (hta _ w214) (hta _ w215) (hta _ w10) (hta _ w216) (Nat.le_of_ble_eq_true rfl) (Nat.le_of_ble_eq_true rfl) (Nat.le_of_ble_eq_true rfl) (Nat.le_of_ble_eq_true rfl) dX_joinFact_96 ?_
        refine gi_last hx hb hK hP hD hS 8 7 rfl rfl (k := ((8 * q) + j)) (by omega) (by decide) dX_joinFact_99 (fun H locs hP hD hS => ?_)
        have hP : va_P (dC, dI) classes (wX a k w (nI mn) n fk fa sl ks (vp_updL ct q (ct q + nn.toInt64)) (vp_updL (upTo (fun m x => x + fa m * nn.toInt64) (8 * q) sm j) ((8 * q) + j) (((upTo (fun m x => x + fa m * nn.toInt64) (8 * q) sm j) ((8 * q) + j)) + ((fa j) * (nn.toInt64)))) (vp_updL (upTo (fun m x => if fa m < x then fa m else x) (8 * q) le j) ((8 * q) + j) (if (fa j) < ((upTo (fun m x => if fa m < x then fa m else x) (8 * q) le j) ((8 * q) + j)) then (fa j) else ((upTo (fun m x => if fa m < x then fa m else x) (8 * q) le j) ((8 * q) + j)))) (vp_updL (upTo (fun m x => if fa m < x then x else fa m) (8 * q) gr j) ((8 * q) + j) (if (fa j) < ((upTo (fun m x => if fa m < x then x else fa m) (8 * q) gr j) ((8 * q) + j)) then ((upTo (fun m x => if fa m < x then x else fa m) (8 * q) gr j) ((8 * q) + j)) else (fa j)))) H := hP
        have hD : va_D A (wX a k w (nI mn) n fk fa sl ks (vp_updL ct q (ct q + nn.toInt64)) (vp_updL (upTo (fun m x => x + fa m * nn.toInt64) (8 * q) sm j) ((8 * q) + j) (((upTo (fun m x => x + fa m * nn.toInt64) (8 * q) sm j) ((8 * q) + j)) + ((fa j) * (nn.toInt64)))) (vp_updL (upTo (fun m x => if fa m < x then fa m else x) (8 * q) le j) ((8 * q) + j) (if (fa j) < ((upTo (fun m x => if fa m < x then fa m else x) (8 * q) le j) ((8 * q) + j)) then (fa j) else ((upTo (fun m x => if fa m < x then fa m else x) (8 * q) le j) ((8 * q) + j)))) (vp_updL (upTo (fun m x => if fa m < x then x else fa m) (8 * q) gr j) ((8 * q) + j) (if (fa j) < ((upTo (fun m x => if fa m < x then x else fa m) (8 * q) gr j) ((8 * q) + j)) then ((upTo (fun m x => if fa m < x then x else fa m) (8 * q) gr j) ((8 * q) + j)) else (fa j)))) := hD
        refine lv_iinc (v := (nI (j + 1))) (lv' := [(4, .int (nI (j + 1))), (5, .long (fa j)), (3, .int (nI (8 * q))), (0, .ref (a 0)), (2, .int nn)]) hx hb dX_joinFact_100 hl (k := 1) rfl (nI_1 _) (by decide) rfl (fun ls hl => ?_)
        refine lv_goto (tgt := 19) hx hb dX_joinFact_103 (by decide) ?_
        have hl := lv_sub hl [0, 2, 3, 4] rfl
        have hl : lv_has ls 7 [(4, .int (nI (j + 1))), (3, .int (nI (8 * q))), (0, .ref (a 0)), (2, .int nn)] := hl
        exact ih (j + 1) (by omega) H locs hP hD hS ls hl
  have hl := lv_sub hl [0, 1, 2, 4] rfl
  have hl : lv_has ls 7 [(4, .int (nI 0)), (3, .int (nI (8 * q))), (0, .ref (a 0)), (2, .int nn)] := hl
  exact loop mn 0 (by omega) H locs hP hD hS ls hl
