set_option maxHeartbeats 4000000 in
set_option maxRecDepth 100000 in
theorem c_compared (l : Launch) (dC : Nat → ClassId) (dI : Nat → Nat → Nat) (b : Nat → Nat) (d : Nat → ClassId) (wn : Nat) (cd ms2 n2 : Int32) (ks2 : Nat → Int32) (ct2 sm2 le2 gr2 : Nat → Int64) (fk2 : Nat → Int32) (fa2 : Nat → Int64) (x y : Nat) (hwn : wn ≤ 8) (hx9 : x < 1000) (hy9 : y < 1000) : Met l yM_compared (Cond.code yM_compared bM_compared 4 (some .int) :: wAll) rm0 (va_Pc [.ref (b 0), .int (nI x), .int (nI y)] (fun U => va_P (dC, dI) classes (wM b d cd (nI wn) ms2 n2 ks2 ct2 sm2 le2 gr2 fk2 fa2) U.heap ∧ va_K (dC, dI) classes (kM d) U)) (QcV (.int (lx (fun i => ks2 (8 * x + i)) (fun i => ks2 (8 * y + i)) wn 0))) 0 0 (fun _ => False) := by
  refine Met.ofW (cc := bM_compared) (maxL := 4) (ret := (some .int)) (by decide) rfl ?_
  intro p e s m args below meth c s₁ B hml hv
  obtain ⟨rfl, hP, hK⟩ := hv
  have hx := B.exec
  have hb := B.bytes
  have hr := B.returns
  have hta : ∀ w ∈ wAll, w.before ([.ref (b 0), .int (nI x), .int (nI y)] : List Value).toArray s = true := fun w h => atoms_spec (ws := (Cond.code yM_compared bM_compared 4 (some .int) :: wAll)) B.pre w (List.mem_cons_of_mem _ h)
  have hown : s.vm.findClass "GroupRowsModel" = some m.cls := findClass_of_methodNamed B.named
  have hlocks := B.notSynchronized
  have hP : va_P (dC, dI) classes (wM b d cd (nI wn) ms2 n2 ks2 ct2 sm2 le2 gr2 fk2 fa2) s.heap := hP
  have hl := lv_entry ([.ref (b 0), .int (nI x), .int (nI y)]) (n := 4) (Nat.le_of_ble_eq_true rfl)
  rw [lg_entry_eq]
  generalize (lg_sl ([.ref (b 0), .int (nI x), .int (nI y)]) ++ List.replicate (4 - (lg_sl ([.ref (b 0), .int (nI x), .int (nI y)])).length) Slot.unset).toArray = ls at hl ⊢
  have hl : lv_has ls 4 [(0, .ref (b 0)), (1, .int (nI x)), (2, .int (nI y))] := hl
  refine lv_iconst (v := 0) hx hb dM_compared_0 (by decide) ?_
  refine gi_as (y := nI 0) (nI_0.symm) ?_
  refine lv_istore_n (lv' := [(3, .int (nI 0)), (0, .ref (b 0)), (1, .int (nI x)), (2, .int (nI y))]) hx hb dM_compared_1 rfl hl (by decide) rfl (fun ls hl => ?_)
  have loop : ∀ (kk i : Nat), i + kk = wn → lx (fun i => ks2 (8 * x + i)) (fun i => ks2 (8 * y + i)) wn 0 = lx (fun i => ks2 (8 * x + i)) (fun i => ks2 (8 * y + i)) kk i → ∀ (ls : Array Slot), lv_has ls 4 [(3, .int (nI i)), (0, .ref (b 0)), (1, .int (nI x)), (2, .int (nI y))] → W p l e (headSpec (Cond.code yM_compared bM_compared 4 (some .int) :: wAll) rm0).room s m ([.ref (b 0), .int (nI x), .int (nI y)] : List Value).toArray below meth c s.heap [] 0 0 (MQ below (QcV (.int (lx (fun i => ks2 (8 * x + i)) (fun i => ks2 (8 * y + i)) wn 0))) ([.ref (b 0), .int (nI x), .int (nI y)] : List Value).toArray s 0 0 (fun _ => False)) (F0 m 2 ls []) := by
    intro kk
    induction kk with
    | zero =>
      intro i hi hlx ls hl
      refine lv_iload_n hx hb dM_compared_2 rfl (lv_at hl 0 rfl) ?_
      refine lv_aload_n hx hb dM_compared_3 rfl (lv_at hl 1 rfl) ?_
      refine va_get (D := (dC, dI)) (ci := 1) (v := .int (nI wn)) (C := "GroupRowsModel") (T := FM) (N := 11) hx hb hta inM hown hK hP 0 rfl rfl 1 (by decide) (hta _ w279) (fun _ h9 => h9) rfl dM_compared_4 ?_
      refine lv_icmp_ge (tgt := 72) hx hb dM_compared_7 (by decide) (fun h1 => ?_) (fun h1 => ?_)
      · skip
        refine lv_iconst (v := 0) hx hb dM_compared_72 (by decide) ?_
        exact W.iret hx hb hr (fun t9 ht9 hW9 => ⟨congrArg (fun z => Outcome.returned (some (Value.int z))) (hlx.symm), ht9⟩) (fun _ h => by cases h) dM_compared_73
      · skip
        exact absurd (nI_le (by omega) (by omega)) h1
    | succ kk ih =>
      intro i hi hlx ls hl
      refine lv_iload_n hx hb dM_compared_2 rfl (lv_at hl 0 rfl) ?_
      refine lv_aload_n hx hb dM_compared_3 rfl (lv_at hl 1 rfl) ?_
      refine va_get (D := (dC, dI)) (ci := 1) (v := .int (nI wn)) (C := "GroupRowsModel") (T := FM) (N := 11) hx hb hta inM hown hK hP 0 rfl rfl 1 (by decide) (hta _ w279) (fun _ h9 => h9) rfl dM_compared_4 ?_
      refine lv_icmp_ge (tgt := 72) hx hb dM_compared_7 (by decide) (fun h1 => ?_) (fun h1 => ?_)
      · skip
        exact absurd h1 (nI_ge (a := i) (by omega) (by omega))
      · skip
        refine lv_aload_n hx hb dM_compared_10 rfl (lv_at hl 1 rfl) ?_
        refine va_get (D := (dC, dI)) (ci := 1) (v := .ref (b 1)) (C := "GroupRowsModel") (T := FM) (N := 11) hx hb hta inM hown hK hP 0 rfl rfl 4 (by decide) (hta _ w282) (fun _ h9 => h9) rfl dM_compared_11 ?_
        refine lv_bipush (v := 8) hx hb dM_compared_14 (by decide) ?_
        refine lv_iload_n hx hb dM_compared_16 rfl (lv_at hl 2 rfl) ?_
        refine lv_imul hx hb dM_compared_17 ?_
        refine gi_as (y := nI (8 * x)) (gi_8mul _) ?_
        refine lv_iload_n hx hb dM_compared_18 rfl (lv_at hl 0 rfl) ?_
        refine lv_iadd hx hb dM_compared_19 ?_
        refine gi_as (y := nI ((8 * x) + i)) (nI_add _ _) ?_
        refine gi_iald hx hb hK hP 1 0 rfl rfl (k := ((8 * x) + i)) (by omega) (by decide) dM_compared_20 ?_
        refine lv_aload_n hx hb dM_compared_21 rfl (lv_at hl 1 rfl) ?_
        refine va_get (D := (dC, dI)) (ci := 1) (v := .ref (b 1)) (C := "GroupRowsModel") (T := FM) (N := 11) hx hb hta inM hown hK hP 0 rfl rfl 4 (by decide) (hta _ w282) (fun _ h9 => h9) rfl dM_compared_22 ?_
        refine lv_bipush (v := 8) hx hb dM_compared_25 (by decide) ?_
        refine lv_iload_n hx hb dM_compared_27 rfl (lv_at hl 3 rfl) ?_
        refine lv_imul hx hb dM_compared_28 ?_
        refine gi_as (y := nI (8 * y)) (gi_8mul _) ?_
        refine lv_iload_n hx hb dM_compared_29 rfl (lv_at hl 0 rfl) ?_
        refine lv_iadd hx hb dM_compared_30 ?_
        refine gi_as (y := nI ((8 * y) + i)) (nI_add _ _) ?_
        refine gi_iald hx hb hK hP 1 0 rfl rfl (k := ((8 * y) + i)) (by omega) (by decide) dM_compared_31 ?_
        refine lv_icmp_eq (tgt := 66) hx hb dM_compared_32 (by decide) (fun h2 => ?_) (fun h2 => ?_)
        · skip
          refine lv_iinc (v := (nI (i + 1))) (lv' := [(3, .int (nI (i + 1))), (0, .ref (b 0)), (1, .int (nI x)), (2, .int (nI y))]) hx hb dM_compared_66 hl (k := 0) rfl (nI_1 _) (by decide) rfl (fun ls hl => ?_)
          refine lv_goto (tgt := 2) hx hb dM_compared_69 (by decide) ?_
          have hl := lv_sub hl [0, 1, 2, 3] rfl
          have hl : lv_has ls 4 [(3, .int (nI (i + 1))), (0, .ref (b 0)), (1, .int (nI x)), (2, .int (nI y))] := hl
          exact ih (i + 1) (by omega) (hlx.trans (by simp only [lx, h2, if_true, if_neg (i32_lt_irr _)])) ls hl
        · skip
          refine lv_aload_n hx hb dM_compared_35 rfl (lv_at hl 1 rfl) ?_
          refine va_get (D := (dC, dI)) (ci := 1) (v := .ref (b 1)) (C := "GroupRowsModel") (T := FM) (N := 11) hx hb hta inM hown hK hP 0 rfl rfl 4 (by decide) (hta _ w282) (fun _ h9 => h9) rfl dM_compared_36 ?_
          refine lv_bipush (v := 8) hx hb dM_compared_39 (by decide) ?_
          refine lv_iload_n hx hb dM_compared_41 rfl (lv_at hl 2 rfl) ?_
          refine lv_imul hx hb dM_compared_42 ?_
          refine gi_as (y := nI (8 * x)) (gi_8mul _) ?_
          refine lv_iload_n hx hb dM_compared_43 rfl (lv_at hl 0 rfl) ?_
          refine lv_iadd hx hb dM_compared_44 ?_
          refine gi_as (y := nI ((8 * x) + i)) (nI_add _ _) ?_
          refine gi_iald hx hb hK hP 1 0 rfl rfl (k := ((8 * x) + i)) (by omega) (by decide) dM_compared_45 ?_
          refine lv_aload_n hx hb dM_compared_46 rfl (lv_at hl 1 rfl) ?_
          refine va_get (D := (dC, dI)) (ci := 1) (v := .ref (b 1)) (C := "GroupRowsModel") (T := FM) (N := 11) hx hb hta inM hown hK hP 0 rfl rfl 4 (by decide) (hta _ w282) (fun _ h9 => h9) rfl dM_compared_47 ?_
          refine lv_bipush (v := 8) hx hb dM_compared_50 (by decide) ?_
          refine lv_iload_n hx hb dM_compared_52 rfl (lv_at hl 3 rfl) ?_
          refine lv_imul hx hb dM_compared_53 ?_
          refine gi_as (y := nI (8 * y)) (gi_8mul _) ?_
          refine lv_iload_n hx hb dM_compared_54 rfl (lv_at hl 0 rfl) ?_
          refine lv_iadd hx hb dM_compared_55 ?_
          refine gi_as (y := nI ((8 * y) + i)) (nI_add _ _) ?_
          refine gi_iald hx hb hK hP 1 0 rfl rfl (k := ((8 * y) + i)) (by omega) (by decide) dM_compared_56 ?_
          refine lv_icmp_ge (tgt := 64) hx hb dM_compared_57 (by decide) (fun h3 => ?_) (fun h3 => ?_)
          · skip
            refine lv_iconst (v := 1) hx hb dM_compared_64 (by decide) ?_
            exact W.iret hx hb hr (fun t9 ht9 hW9 => ⟨congrArg (fun z => Outcome.returned (some (Value.int z))) (by rw [hlx]; simp only [lx]; rw [if_neg (Int32.not_lt.mpr h3), if_neg h2]), ht9⟩) (fun _ h => by cases h) dM_compared_65
          · skip
            refine lv_iconst (v := (-1)) hx hb dM_compared_60 (by decide) ?_
            refine lv_goto (tgt := 65) hx hb dM_compared_61 (by decide) ?_
            exact W.iret hx hb hr (fun t9 ht9 hW9 => ⟨congrArg (fun z => Outcome.returned (some (Value.int z))) (by rw [hlx]; simp only [lx]; rw [if_pos (Int32.not_le.mp h3)]), ht9⟩) (fun _ h => by cases h) dM_compared_65
  have hl := lv_sub hl [0, 1, 2, 3] rfl
  have hl : lv_has ls 4 [(3, .int (nI 0)), (0, .ref (b 0)), (1, .int (nI x)), (2, .int (nI y))] := hl
  exact loop wn 0 (by omega) rfl ls hl
set_option maxHeartbeats 4000000 in
set_option maxRecDepth 100000 in
theorem c_against (l : Launch) (dC : Nat → ClassId) (dI : Nat → Nat → Nat) (b : Nat → Nat) (d : Nat → ClassId) (wn : Nat) (cd ms2 n2 : Int32) (ks2 : Nat → Int32) (ct2 sm2 le2 gr2 : Nat → Int64) (fk2 : Nat → Int32) (fa2 : Nat → Int64) (x : Nat) (hwn : wn ≤ 8) (hx9 : x < 1000) : Met l yM_against (Cond.code yM_against bM_against 3 (some .int) :: wAll) rm0 (va_Pc [.ref (b 0), .int (nI x)] (fun U => va_P (dC, dI) classes (wM b d cd (nI wn) ms2 n2 ks2 ct2 sm2 le2 gr2 fk2 fa2) U.heap ∧ va_K (dC, dI) classes (kM d) U)) (QcV (.int (lx fk2 (fun i => ks2 (8 * x + i)) wn 0))) 0 0 (fun _ => False) := by
  refine Met.ofW (cc := bM_against) (maxL := 3) (ret := (some .int)) (by decide) rfl ?_
  intro p e s m args below meth c s₁ B hml hv
  obtain ⟨rfl, hP, hK⟩ := hv
  have hx := B.exec
  have hb := B.bytes
  have hr := B.returns
  have hta : ∀ w ∈ wAll, w.before ([.ref (b 0), .int (nI x)] : List Value).toArray s = true := fun w h => atoms_spec (ws := (Cond.code yM_against bM_against 3 (some .int) :: wAll)) B.pre w (List.mem_cons_of_mem _ h)
  have hown : s.vm.findClass "GroupRowsModel" = some m.cls := findClass_of_methodNamed B.named
  have hlocks := B.notSynchronized
  have hP : va_P (dC, dI) classes (wM b d cd (nI wn) ms2 n2 ks2 ct2 sm2 le2 gr2 fk2 fa2) s.heap := hP
  have hl := lv_entry ([.ref (b 0), .int (nI x)]) (n := 3) (Nat.le_of_ble_eq_true rfl)
  rw [lg_entry_eq]
  generalize (lg_sl ([.ref (b 0), .int (nI x)]) ++ List.replicate (3 - (lg_sl ([.ref (b 0), .int (nI x)])).length) Slot.unset).toArray = ls at hl ⊢
  have hl : lv_has ls 3 [(0, .ref (b 0)), (1, .int (nI x))] := hl
  refine lv_iconst (v := 0) hx hb dM_against_0 (by decide) ?_
  refine gi_as (y := nI 0) (nI_0.symm) ?_
  refine lv_istore_n (lv' := [(2, .int (nI 0)), (0, .ref (b 0)), (1, .int (nI x))]) hx hb dM_against_1 rfl hl (by decide) rfl (fun ls hl => ?_)
  have loop : ∀ (kk i : Nat), i + kk = wn → lx fk2 (fun i => ks2 (8 * x + i)) wn 0 = lx fk2 (fun i => ks2 (8 * x + i)) kk i → ∀ (ls : Array Slot), lv_has ls 3 [(2, .int (nI i)), (0, .ref (b 0)), (1, .int (nI x))] → W p l e (headSpec (Cond.code yM_against bM_against 3 (some .int) :: wAll) rm0).room s m ([.ref (b 0), .int (nI x)] : List Value).toArray below meth c s.heap [] 0 0 (MQ below (QcV (.int (lx fk2 (fun i => ks2 (8 * x + i)) wn 0))) ([.ref (b 0), .int (nI x)] : List Value).toArray s 0 0 (fun _ => False)) (F0 m 2 ls []) := by
    intro kk
    induction kk with
    | zero =>
      intro i hi hlx ls hl
      refine lv_iload_n hx hb dM_against_2 rfl (lv_at hl 0 rfl) ?_
      refine lv_aload_n hx hb dM_against_3 rfl (lv_at hl 1 rfl) ?_
      refine va_get (D := (dC, dI)) (ci := 1) (v := .int (nI wn)) (C := "GroupRowsModel") (T := FM) (N := 11) hx hb hta inM hown hK hP 0 rfl rfl 1 (by decide) (hta _ w279) (fun _ h9 => h9) rfl dM_against_4 ?_
      refine lv_icmp_ge (tgt := 62) hx hb dM_against_7 (by decide) (fun h1 => ?_) (fun h1 => ?_)
      · skip
        refine lv_iconst (v := 0) hx hb dM_against_62 (by decide) ?_
        exact W.iret hx hb hr (fun t9 ht9 hW9 => ⟨congrArg (fun z => Outcome.returned (some (Value.int z))) (hlx.symm), ht9⟩) (fun _ h => by cases h) dM_against_63
      · skip
        exact absurd (nI_le (by omega) (by omega)) h1
    | succ kk ih =>
      intro i hi hlx ls hl
      refine lv_iload_n hx hb dM_against_2 rfl (lv_at hl 0 rfl) ?_
      refine lv_aload_n hx hb dM_against_3 rfl (lv_at hl 1 rfl) ?_
      refine va_get (D := (dC, dI)) (ci := 1) (v := .int (nI wn)) (C := "GroupRowsModel") (T := FM) (N := 11) hx hb hta inM hown hK hP 0 rfl rfl 1 (by decide) (hta _ w279) (fun _ h9 => h9) rfl dM_against_4 ?_
      refine lv_icmp_ge (tgt := 62) hx hb dM_against_7 (by decide) (fun h1 => ?_) (fun h1 => ?_)
      · skip
        exact absurd h1 (nI_ge (a := i) (by omega) (by omega))
      · skip
        refine lv_aload_n hx hb dM_against_10 rfl (lv_at hl 1 rfl) ?_
        refine va_get (D := (dC, dI)) (ci := 1) (v := .ref (b 6)) (C := "GroupRowsModel") (T := FM) (N := 11) hx hb hta inM hown hK hP 0 rfl rfl 9 (by decide) (hta _ w287) (fun _ h9 => h9) rfl dM_against_11 ?_
        refine lv_iload_n hx hb dM_against_14 rfl (lv_at hl 0 rfl) ?_
        refine gi_iald hx hb hK hP 6 5 rfl rfl (k := i) (by omega) (by decide) dM_against_15 ?_
        refine lv_aload_n hx hb dM_against_16 rfl (lv_at hl 1 rfl) ?_
        refine va_get (D := (dC, dI)) (ci := 1) (v := .ref (b 1)) (C := "GroupRowsModel") (T := FM) (N := 11) hx hb hta inM hown hK hP 0 rfl rfl 4 (by decide) (hta _ w282) (fun _ h9 => h9) rfl dM_against_17 ?_
        refine lv_bipush (v := 8) hx hb dM_against_20 (by decide) ?_
        refine lv_iload_n hx hb dM_against_22 rfl (lv_at hl 2 rfl) ?_
        refine lv_imul hx hb dM_against_23 ?_
        refine gi_as (y := nI (8 * x)) (gi_8mul _) ?_
        refine lv_iload_n hx hb dM_against_24 rfl (lv_at hl 0 rfl) ?_
        refine lv_iadd hx hb dM_against_25 ?_
        refine gi_as (y := nI ((8 * x) + i)) (nI_add _ _) ?_
        refine gi_iald hx hb hK hP 1 0 rfl rfl (k := ((8 * x) + i)) (by omega) (by decide) dM_against_26 ?_
        refine lv_icmp_eq (tgt := 56) hx hb dM_against_27 (by decide) (fun h2 => ?_) (fun h2 => ?_)
        · skip
          refine lv_iinc (v := (nI (i + 1))) (lv' := [(2, .int (nI (i + 1))), (0, .ref (b 0)), (1, .int (nI x))]) hx hb dM_against_56 hl (k := 0) rfl (nI_1 _) (by decide) rfl (fun ls hl => ?_)
          refine lv_goto (tgt := 2) hx hb dM_against_59 (by decide) ?_
          have hl := lv_sub hl [0, 1, 2] rfl
          have hl : lv_has ls 3 [(2, .int (nI (i + 1))), (0, .ref (b 0)), (1, .int (nI x))] := hl
          exact ih (i + 1) (by omega) (hlx.trans (by simp only [lx, h2, if_true, if_neg (i32_lt_irr _)])) ls hl
        · skip
          refine lv_aload_n hx hb dM_against_30 rfl (lv_at hl 1 rfl) ?_
          refine va_get (D := (dC, dI)) (ci := 1) (v := .ref (b 6)) (C := "GroupRowsModel") (T := FM) (N := 11) hx hb hta inM hown hK hP 0 rfl rfl 9 (by decide) (hta _ w287) (fun _ h9 => h9) rfl dM_against_31 ?_
          refine lv_iload_n hx hb dM_against_34 rfl (lv_at hl 0 rfl) ?_
          refine gi_iald hx hb hK hP 6 5 rfl rfl (k := i) (by omega) (by decide) dM_against_35 ?_
          refine lv_aload_n hx hb dM_against_36 rfl (lv_at hl 1 rfl) ?_
          refine va_get (D := (dC, dI)) (ci := 1) (v := .ref (b 1)) (C := "GroupRowsModel") (T := FM) (N := 11) hx hb hta inM hown hK hP 0 rfl rfl 4 (by decide) (hta _ w282) (fun _ h9 => h9) rfl dM_against_37 ?_
          refine lv_bipush (v := 8) hx hb dM_against_40 (by decide) ?_
          refine lv_iload_n hx hb dM_against_42 rfl (lv_at hl 2 rfl) ?_
          refine lv_imul hx hb dM_against_43 ?_
          refine gi_as (y := nI (8 * x)) (gi_8mul _) ?_
          refine lv_iload_n hx hb dM_against_44 rfl (lv_at hl 0 rfl) ?_
          refine lv_iadd hx hb dM_against_45 ?_
          refine gi_as (y := nI ((8 * x) + i)) (nI_add _ _) ?_
          refine gi_iald hx hb hK hP 1 0 rfl rfl (k := ((8 * x) + i)) (by omega) (by decide) dM_against_46 ?_
          refine lv_icmp_ge (tgt := 54) hx hb dM_against_47 (by decide) (fun h3 => ?_) (fun h3 => ?_)
          · skip
            refine lv_iconst (v := 1) hx hb dM_against_54 (by decide) ?_
            exact W.iret hx hb hr (fun t9 ht9 hW9 => ⟨congrArg (fun z => Outcome.returned (some (Value.int z))) (by rw [hlx]; simp only [lx]; rw [if_neg (Int32.not_lt.mpr h3), if_neg h2]), ht9⟩) (fun _ h => by cases h) dM_against_55
          · skip
            refine lv_iconst (v := (-1)) hx hb dM_against_50 (by decide) ?_
            refine lv_goto (tgt := 55) hx hb dM_against_51 (by decide) ?_
            exact W.iret hx hb hr (fun t9 ht9 hW9 => ⟨congrArg (fun z => Outcome.returned (some (Value.int z))) (by rw [hlx]; simp only [lx]; rw [if_pos (Int32.not_le.mp h3)]), ht9⟩) (fun _ h => by cases h) dM_against_55
  have hl := lv_sub hl [0, 1, 2] rfl
  have hl : lv_has ls 3 [(2, .int (nI 0)), (0, .ref (b 0)), (1, .int (nI x))] := hl
  exact loop wn 0 (by omega) rfl ls hl
set_option maxHeartbeats 4000000 in
set_option maxRecDepth 100000 in
theorem c_before (l : Launch) (dC : Nat → ClassId) (dI : Nat → Nat → Nat) (b : Nat → Nat) (d : Nat → ClassId) (wn nn : Nat) (cd ms2 : Int32) (ks2 : Nat → Int32) (ct2 sm2 le2 gr2 : Nat → Int64) (fk2 : Nat → Int32) (fa2 : Nat → Int64) (ps : Nat) (hwn : wn ≤ 8) (hnn : nn ≤ 1000) (hlow : isLow wn nn (fun j i => ks2 (8 * j + i)) fk2 ps) : Met l yM_before (Cond.code yM_before bM_before 2 (some .int) :: wAll) { frames := 1, cells := 0, slots := 0, locals := 64 } (va_Pc [.ref (b 0)] (fun U => va_P (dC, dI) classes (wM b d cd (nI wn) ms2 (nI nn) ks2 ct2 sm2 le2 gr2 fk2 fa2) U.heap ∧ va_K (dC, dI) classes (kM d) U)) (QcV (.int (nI ps))) 0 0 (fun _ => False) := by
  refine Met.ofW (cc := bM_before) (maxL := 2) (ret := (some .int)) (by decide) rfl ?_
  intro p e s m args below meth c s₁ B hml hv
  obtain ⟨rfl, hP, hK⟩ := hv
  have hx := B.exec
  have hb := B.bytes
  have hr := B.returns
  have hta : ∀ w ∈ wAll, w.before ([.ref (b 0)] : List Value).toArray s = true := fun w h => atoms_spec (ws := (Cond.code yM_before bM_before 2 (some .int) :: wAll)) B.pre w (List.mem_cons_of_mem _ h)
  have hown : s.vm.findClass "GroupRowsModel" = some m.cls := findClass_of_methodNamed B.named
  have hlocks := B.notSynchronized
  have hP : va_P (dC, dI) classes (wM b d cd (nI wn) ms2 (nI nn) ks2 ct2 sm2 le2 gr2 fk2 fa2) s.heap := hP
  have hl := lv_entry ([.ref (b 0)]) (n := 2) (Nat.le_of_ble_eq_true rfl)
  rw [lg_entry_eq]
  generalize (lg_sl ([.ref (b 0)]) ++ List.replicate (2 - (lg_sl ([.ref (b 0)])).length) Slot.unset).toArray = ls at hl ⊢
  have hl : lv_has ls 2 [(0, .ref (b 0))] := hl
  have hps := hlow.1
  refine lv_iconst (v := 0) hx hb dM_before_0 (by decide) ?_
  refine gi_as (y := nI 0) (nI_0.symm) ?_
  refine lv_istore_n (lv' := [(1, .int (nI 0)), (0, .ref (b 0))]) hx hb dM_before_1 rfl hl (by decide) rfl (fun ls hl => ?_)
  have loop : ∀ (kk q : Nat), q + kk = ps → ∀ (ls : Array Slot), lv_has ls 2 [(1, .int (nI q)), (0, .ref (b 0))] → W p l e (headSpec (Cond.code yM_before bM_before 2 (some .int) :: wAll) { frames := 1, cells := 0, slots := 0, locals := 64 }).room s m ([.ref (b 0)] : List Value).toArray below meth c s.heap [] 0 0 (MQ below (QcV (.int (nI ps))) ([.ref (b 0)] : List Value).toArray s 0 0 (fun _ => False)) (F0 m 2 ls []) := by
    intro kk
    induction kk with
    | zero =>
      intro q hq ls hl
      refine lv_iload_n hx hb dM_before_2 rfl (lv_at hl 0 rfl) ?_
      refine lv_aload_n hx hb dM_before_3 rfl (lv_at hl 1 rfl) ?_
      refine va_get (D := (dC, dI)) (ci := 1) (v := .int (nI nn)) (C := "GroupRowsModel") (T := FM) (N := 11) hx hb hta inM hown hK hP 0 rfl rfl 3 (by decide) (hta _ w281) (fun _ h9 => h9) rfl dM_before_4 ?_
      refine lv_icmp_ge (tgt := 24) hx hb dM_before_7 (by decide) (fun h1 => ?_) (fun h1 => ?_)
      · skip
        refine lv_iload_n hx hb dM_before_24 rfl (lv_at hl 0 rfl) ?_
        exact W.iret hx hb hr (fun t9 ht9 hW9 => ⟨congrArg (fun z => Outcome.returned (some (Value.int z))) (by rw [show ps = q by omega]), ht9⟩) (fun _ h => by cases h) dM_before_25
      · skip
        have h1 : q < nn := by
          rcases Nat.lt_or_ge q nn with z | z
          · exact z
          · exact absurd (nI_le z (by omega)) h1
        refine lv_aload_n hx hb dM_before_10 rfl (lv_at hl 1 rfl) ?_
        refine lv_iload_n hx hb dM_before_11 rfl (lv_at hl 0 rfl) ?_
        refine gi_callR (v := .int (lx fk2 (fun i => ks2 (8 * q + i)) wn 0)) (W.runV (As := [.int (nI q)]) (rest := []) ⟨hx, hb, hml, hown, hta⟩ (c_against l dC dI b d wn cd ms2 (nI nn) ks2 ct2 sm2 le2 gr2 fk2 fa2 q hwn (by omega)) (cwV 1 hta (gV w341 w343 sM_against w2 w344) rfl rfl rfl (by decide +kernel) ⟨Nat.le_of_ble_eq_true rfl, Nat.le_of_ble_eq_true rfl⟩) ⟨gb_R, va_recv hK hP (ci := 1) (q0 := 0) rfl rfl, fun U hU hW => ⟨rfl, by rw [hU]; exact hP, va_K.moved hW.alike hK⟩⟩ rfl rfl hl.1 rfl (lv_room (Nat.le_of_ble_eq_true rfl)) dM_before_12 ⟨Nat.le_of_ble_eq_true rfl, Nat.le_of_ble_eq_true rfl⟩) ?_
        refine lv_if_le (tgt := 24) hx hb dM_before_15 (by decide) (fun h2 => ?_) (fun h2 => ?_)
        · skip
          refine lv_iload_n hx hb dM_before_24 rfl (lv_at hl 0 rfl) ?_
          exact W.iret hx hb hr (fun t9 ht9 hW9 => ⟨congrArg (fun z => Outcome.returned (some (Value.int z))) (by rw [show ps = q by omega]), ht9⟩) (fun _ h => by cases h) dM_before_25
        · skip
          exact absurd (lx_gt.mp (Int32.not_le.mp h2)) (hlow.2.2 q (by omega) h1)
    | succ kk ih =>
      intro q hq ls hl
      refine lv_iload_n hx hb dM_before_2 rfl (lv_at hl 0 rfl) ?_
      refine lv_aload_n hx hb dM_before_3 rfl (lv_at hl 1 rfl) ?_
      refine va_get (D := (dC, dI)) (ci := 1) (v := .int (nI nn)) (C := "GroupRowsModel") (T := FM) (N := 11) hx hb hta inM hown hK hP 0 rfl rfl 3 (by decide) (hta _ w281) (fun _ h9 => h9) rfl dM_before_4 ?_
      refine lv_icmp_ge (tgt := 24) hx hb dM_before_7 (by decide) (fun h1 => ?_) (fun h1 => ?_)
      · skip
        exact absurd ((nI_leI (by omega) (by omega)).mp h1) (by omega)
      · skip
        refine lv_aload_n hx hb dM_before_10 rfl (lv_at hl 1 rfl) ?_
        refine lv_iload_n hx hb dM_before_11 rfl (lv_at hl 0 rfl) ?_
        refine gi_callR (v := .int (lx fk2 (fun i => ks2 (8 * q + i)) wn 0)) (W.runV (As := [.int (nI q)]) (rest := []) ⟨hx, hb, hml, hown, hta⟩ (c_against l dC dI b d wn cd ms2 (nI nn) ks2 ct2 sm2 le2 gr2 fk2 fa2 q hwn (by omega)) (cwV 1 hta (gV w341 w343 sM_against w2 w344) rfl rfl rfl (by decide +kernel) ⟨Nat.le_of_ble_eq_true rfl, Nat.le_of_ble_eq_true rfl⟩) ⟨gb_R, va_recv hK hP (ci := 1) (q0 := 0) rfl rfl, fun U hU hW => ⟨rfl, by rw [hU]; exact hP, va_K.moved hW.alike hK⟩⟩ rfl rfl hl.1 rfl (lv_room (Nat.le_of_ble_eq_true rfl)) dM_before_12 ⟨Nat.le_of_ble_eq_true rfl, Nat.le_of_ble_eq_true rfl⟩) ?_
        refine lv_if_le (tgt := 24) hx hb dM_before_15 (by decide) (fun h2 => ?_) (fun h2 => ?_)
        · skip
          exact absurd (lx_gt.mpr (hlow.2.1 q (by omega))) (Int32.not_lt.mpr h2)
        · skip
          refine lv_iinc (v := (nI (q + 1))) (lv' := [(1, .int (nI (q + 1))), (0, .ref (b 0))]) hx hb dM_before_18 hl (k := 0) rfl (nI_1 _) (by decide) rfl (fun ls hl => ?_)
          refine lv_goto (tgt := 2) hx hb dM_before_21 (by decide) ?_
          have hl := lv_sub hl [0, 1] rfl
          have hl : lv_has ls 2 [(1, .int (nI (q + 1))), (0, .ref (b 0))] := hl
          exact ih (q + 1) (by omega) ls hl
  have hl := lv_sub hl [0, 1] rfl
  have hl : lv_has ls 2 [(1, .int (nI 0)), (0, .ref (b 0))] := hl
  exact loop ps 0 (by omega) ls hl
set_option maxHeartbeats 4000000 in
set_option maxRecDepth 100000 in
theorem c_isRow (l : Launch) (dC : Nat → ClassId) (dI : Nat → Nat → Nat) (b : Nat → Nat) (d : Nat → ClassId) (cd w2 ms2 n2 : Int32) (ks2 : Nat → Int32) (ct2 sm2 le2 gr2 : Nat → Int64) (fk2 : Nat → Int32) (fa2 : Nat → Int64) (i : Int32) : Met l yM_isRow (Cond.code yM_isRow bM_isRow 2 (some .boolean) :: wAll) rm0 (va_Pc [.ref (b 0), .int i] (fun U => va_P (dC, dI) classes (wM b d cd w2 ms2 n2 ks2 ct2 sm2 le2 gr2 fk2 fa2) U.heap ∧ va_K (dC, dI) classes (kM d) U)) (QcV (.int (if 0 ≤ i ∧ i < n2 then 1 else 0))) 0 0 (fun _ => False) := by
  refine Met.ofW (cc := bM_isRow) (maxL := 2) (ret := (some .boolean)) (by decide) rfl ?_
  intro p e s m args below meth c s₁ B hml hv
  obtain ⟨rfl, hP, hK⟩ := hv
  have hx := B.exec
  have hb := B.bytes
  have hr := B.returns
  have hta : ∀ w ∈ wAll, w.before ([.ref (b 0), .int i] : List Value).toArray s = true := fun w h => atoms_spec (ws := (Cond.code yM_isRow bM_isRow 2 (some .boolean) :: wAll)) B.pre w (List.mem_cons_of_mem _ h)
  have hown : s.vm.findClass "GroupRowsModel" = some m.cls := findClass_of_methodNamed B.named
  have hlocks := B.notSynchronized
  have hP : va_P (dC, dI) classes (wM b d cd w2 ms2 n2 ks2 ct2 sm2 le2 gr2 fk2 fa2) s.heap := hP
  have hl := lv_entry ([.ref (b 0), .int i]) (n := 2) (Nat.le_of_ble_eq_true rfl)
  rw [lg_entry_eq]
  generalize (lg_sl ([.ref (b 0), .int i]) ++ List.replicate (2 - (lg_sl ([.ref (b 0), .int i])).length) Slot.unset).toArray = ls at hl ⊢
  have hl : lv_has ls 2 [(0, .ref (b 0)), (1, .int i)] := hl
  refine lv_iload_n hx hb dM_isRow_0 rfl (lv_at hl 1 rfl) ?_
  refine lv_if_lt (tgt := 16) hx hb dM_isRow_1 (by decide) (fun h1 => ?_) (fun h1 => ?_)
  · skip
    refine lv_iconst (v := 0) hx hb dM_isRow_16 (by decide) ?_
    exact W.zret hx hb hr (rfl) (fun t9 ht9 hW9 => ⟨congrArg (fun z => Outcome.returned (some (Value.int z))) ((if_neg (fun q => absurd q.1 (Int32.not_le.mpr h1))).symm), ht9⟩) (fun _ h => by cases h) dM_isRow_17
  · skip
    refine lv_iload_n hx hb dM_isRow_4 rfl (lv_at hl 1 rfl) ?_
    refine lv_aload_n hx hb dM_isRow_5 rfl (lv_at hl 0 rfl) ?_
    refine va_get (D := (dC, dI)) (ci := 1) (v := .int n2) (C := "GroupRowsModel") (T := FM) (N := 11) hx hb hta inM hown hK hP 0 rfl rfl 3 (by decide) (hta _ w281) (fun _ h9 => h9) rfl dM_isRow_6 ?_
    refine lv_icmp_ge (tgt := 16) hx hb dM_isRow_9 (by decide) (fun h2 => ?_) (fun h2 => ?_)
    · skip
      refine lv_iconst (v := 0) hx hb dM_isRow_16 (by decide) ?_
      exact W.zret hx hb hr (rfl) (fun t9 ht9 hW9 => ⟨congrArg (fun z => Outcome.returned (some (Value.int z))) ((if_neg (fun q => absurd q.2 (Int32.not_lt.mpr h2))).symm), ht9⟩) (fun _ h => by cases h) dM_isRow_17
    · skip
      refine lv_iconst (v := 1) hx hb dM_isRow_12 (by decide) ?_
      refine lv_goto (tgt := 17) hx hb dM_isRow_13 (by decide) ?_
      exact W.zret hx hb hr (rfl) (fun t9 ht9 hW9 => ⟨congrArg (fun z => Outcome.returned (some (Value.int z))) ((if_pos ⟨Int32.not_lt.mp h1, Int32.not_le.mp h2⟩).symm), ht9⟩) (fun _ h => by cases h) dM_isRow_17
set_option maxHeartbeats 4000000 in
set_option maxRecDepth 100000 in
theorem c_thrown (l : Launch) (dC : Nat → ClassId) (dI : Nat → Nat → Nat) (b : Nat → Nat) (d : Nat → ClassId) (cd w2 ms2 n2 : Int32) (ks2 : Nat → Int32) (ct2 sm2 le2 gr2 : Nat → Int64) (fk2 : Nat → Int32) (fa2 : Nat → Int64) : Met l yM_thrown (Cond.code yM_thrown bM_thrown 1 (some .int) :: wAll) rm0 (va_Pc [.ref (b 0)] (fun U => va_P (dC, dI) classes (wM b d cd w2 ms2 n2 ks2 ct2 sm2 le2 gr2 fk2 fa2) U.heap ∧ va_K (dC, dI) classes (kM d) U)) (QcV (.int cd)) 0 0 (fun _ => False) := by
  refine Met.ofW (cc := bM_thrown) (maxL := 1) (ret := (some .int)) (by decide) rfl ?_
  intro p e s m args below meth c s₁ B hml hv
  obtain ⟨rfl, hP, hK⟩ := hv
  have hx := B.exec
  have hb := B.bytes
  have hr := B.returns
  have hta : ∀ w ∈ wAll, w.before ([.ref (b 0)] : List Value).toArray s = true := fun w h => atoms_spec (ws := (Cond.code yM_thrown bM_thrown 1 (some .int) :: wAll)) B.pre w (List.mem_cons_of_mem _ h)
  have hown : s.vm.findClass "GroupRowsModel" = some m.cls := findClass_of_methodNamed B.named
  have hlocks := B.notSynchronized
  have hP : va_P (dC, dI) classes (wM b d cd w2 ms2 n2 ks2 ct2 sm2 le2 gr2 fk2 fa2) s.heap := hP
  have hl := lv_entry ([.ref (b 0)]) (n := 1) (Nat.le_of_ble_eq_true rfl)
  rw [lg_entry_eq]
  generalize (lg_sl ([.ref (b 0)]) ++ List.replicate (1 - (lg_sl ([.ref (b 0)])).length) Slot.unset).toArray = ls at hl ⊢
  have hl : lv_has ls 1 [(0, .ref (b 0))] := hl
  refine lv_aload_n hx hb dM_thrown_0 rfl (lv_at hl 0 rfl) ?_
  refine va_get (D := (dC, dI)) (ci := 1) (v := .int cd) (C := "GroupRowsModel") (T := FM) (N := 11) hx hb hta inM hown hK hP 0 rfl rfl 0 (by decide) (hta _ w278) (fun _ h9 => h9) rfl dM_thrown_1 ?_
  exact W.iret hx hb hr (fun t9 ht9 hW9 => ⟨congrArg (fun z => Outcome.returned (some (Value.int z))) (rfl), ht9⟩) (fun _ h => by cases h) dM_thrown_4
set_option maxHeartbeats 4000000 in
set_option maxRecDepth 100000 in
/-- copy -/
theorem c_copy (l : Launch) (dC : Nat → ClassId) (dI : Nat → Nat → Nat) (b : Nat → Nat) (d : Nat → ClassId) (cd w2 ms2 n2 : Int32) (ks2 : Nat → Int32) (ct2 sm2 le2 gr2 : Nat → Int64) (fk2 : Nat → Int32) (fa2 : Nat → Int64) (x y : Nat) (hx9 : x < 1000) (hy9 : y < 1000) (sz : Nat)  : Met l yM_copy (Cond.code yM_copy bM_copy 4 none :: wAll) rm0 (va_Pc [.ref (b 0), .int (nI x), .int (nI y)] (fun U => U.heap.size = sz ∧ va_P (dC, dI) classes (wM b d cd w2 ms2 n2 ks2 ct2 sm2 le2 gr2 fk2 fa2) U.heap ∧ va_K (dC, dI) classes (kM d) U ∧ va_D (fun _ => True) (wM b d cd w2 ms2 n2 ks2 ct2 sm2 le2 gr2 fk2 fa2))) (va_Qv (fun _ : Unit => True) (fun (_ : Unit) (t9 : State) => va_P (dC, dI) classes (wM b d cd w2 ms2 n2 (upToI (fun m _ => ks2 (8 * x + m)) (8 * y) ks2 8) (vp_updL ct2 y (ct2 x)) (upTo (fun m _ => sm2 (8 * x + m)) (8 * y) sm2 8) (upTo (fun m _ => le2 (8 * x + m)) (8 * y) le2 8) (upTo (fun m _ => gr2 (8 * x + m)) (8 * y) gr2 8) fk2 fa2) t9.heap ∧ va_K (dC, dI) classes (kM d) t9 ∧ va_D (va_A (wM b d cd w2 ms2 n2 ks2 ct2 sm2 le2 gr2 fk2 fa2) sz) (wM b d cd w2 ms2 n2 (upToI (fun m _ => ks2 (8 * x + m)) (8 * y) ks2 8) (vp_updL ct2 y (ct2 x)) (upTo (fun m _ => sm2 (8 * x + m)) (8 * y) sm2 8) (upTo (fun m _ => le2 (8 * x + m)) (8 * y) le2 8) (upTo (fun m _ => gr2 (8 * x + m)) (8 * y) gr2 8) fk2 fa2)) (va_A (wM b d cd w2 ms2 n2 ks2 ct2 sm2 le2 gr2 fk2 fa2) sz)) 0 0 (va_A (wM b d cd w2 ms2 n2 ks2 ct2 sm2 le2 gr2 fk2 fa2) sz) := by
  refine Met.ofW (cc := bM_copy) (maxL := 4) (ret := none) (by decide) rfl ?_
  intro p e s m args below meth c s₁ B hml hv
  obtain ⟨rfl, hsz, hP, hK, hD0⟩ := hv
  have hx := B.exec
  have hb := B.bytes
  have hr := B.returns
  have hta : ∀ w ∈ wAll, w.before ([.ref (b 0), .int (nI x), .int (nI y)] : List Value).toArray s = true := fun w h => atoms_spec (ws := (Cond.code yM_copy bM_copy 4 none :: wAll)) B.pre w (List.mem_cons_of_mem _ h)
  have hown : s.vm.findClass "GroupRowsModel" = some m.cls := findClass_of_methodNamed B.named
  have hlocks := B.notSynchronized
  subst hsz
  have hD := hD0.self (sz := s.heap.size)
  generalize hAe : va_A (wM b d cd w2 ms2 n2 ks2 ct2 sm2 le2 gr2 fk2 fa2) s.heap.size = A at hD ⊢
  have hA : ∀ q : Nat, s.heap.size ≤ q → A q := fun q h => by rw [← hAe]; exact Or.inr h
  have hS : va_S A s.heap s.heap [] := va_S.rf
  have hP : va_P (dC, dI) classes (wM b d cd w2 ms2 n2 ks2 ct2 sm2 le2 gr2 fk2 fa2) s.heap := hP
  have hl := lv_entry ([.ref (b 0), .int (nI x), .int (nI y)]) (n := 4) (Nat.le_of_ble_eq_true rfl)
  rw [lg_entry_eq]
  generalize (lg_sl ([.ref (b 0), .int (nI x), .int (nI y)]) ++ List.replicate (4 - (lg_sl ([.ref (b 0), .int (nI x), .int (nI y)])).length) Slot.unset).toArray = ls at hl ⊢
  have hl : lv_has ls 4 [(0, .ref (b 0)), (1, .int (nI x)), (2, .int (nI y))] := hl
  refine lv_iconst (v := 0) hx hb dM_copy_0 (by decide) ?_
  refine gi_as (y := nI 0) (nI_0.symm) ?_
  refine lv_istore_n (lv' := [(3, .int (nI 0)), (0, .ref (b 0)), (1, .int (nI x)), (2, .int (nI y))]) hx hb dM_copy_1 rfl hl (by decide) rfl (fun ls hl => ?_)
  have loop : ∀ (kk j : Nat), j + kk = 8 → ∀ (H : Heap) (locs : List Loc), va_P (dC, dI) classes (wM b d cd w2 ms2 n2 (upToI (fun m _ => ks2 (8 * x + m)) (8 * y) ks2 j) ct2 (upTo (fun m _ => sm2 (8 * x + m)) (8 * y) sm2 j) (upTo (fun m _ => le2 (8 * x + m)) (8 * y) le2 j) (upTo (fun m _ => gr2 (8 * x + m)) (8 * y) gr2 j) fk2 fa2) H → va_D A (wM b d cd w2 ms2 n2 (upToI (fun m _ => ks2 (8 * x + m)) (8 * y) ks2 j) ct2 (upTo (fun m _ => sm2 (8 * x + m)) (8 * y) sm2 j) (upTo (fun m _ => le2 (8 * x + m)) (8 * y) le2 j) (upTo (fun m _ => gr2 (8 * x + m)) (8 * y) gr2 j) fk2 fa2) → va_S A s.heap H locs → ∀ (ls : Array Slot), lv_has ls 4 [(3, .int (nI j)), (0, .ref (b 0)), (1, .int (nI x)), (2, .int (nI y))] → W p l e (headSpec (Cond.code yM_copy bM_copy 4 none :: wAll) rm0).room s m ([.ref (b 0), .int (nI x), .int (nI y)] : List Value).toArray below meth c H locs 0 0 (MQ below (va_Qv (fun _ : Unit => True) (fun (_ : Unit) (t9 : State) => va_P (dC, dI) classes (wM b d cd w2 ms2 n2 (upToI (fun m _ => ks2 (8 * x + m)) (8 * y) ks2 8) (vp_updL ct2 y (ct2 x)) (upTo (fun m _ => sm2 (8 * x + m)) (8 * y) sm2 8) (upTo (fun m _ => le2 (8 * x + m)) (8 * y) le2 8) (upTo (fun m _ => gr2 (8 * x + m)) (8 * y) gr2 8) fk2 fa2) t9.heap ∧ va_K (dC, dI) classes (kM d) t9 ∧ va_D A (wM b d cd w2 ms2 n2 (upToI (fun m _ => ks2 (8 * x + m)) (8 * y) ks2 8) (vp_updL ct2 y (ct2 x)) (upTo (fun m _ => sm2 (8 * x + m)) (8 * y) sm2 8) (upTo (fun m _ => le2 (8 * x + m)) (8 * y) le2 8) (upTo (fun m _ => gr2 (8 * x + m)) (8 * y) gr2 8) fk2 fa2)) A) ([.ref (b 0), .int (nI x), .int (nI y)] : List Value).toArray s 0 0 A) (F0 m 2 ls []) := by
    intro kk
    induction kk with
    | zero =>
      intro j hj H locs hP hD hS ls hl
      refine lv_iload_n hx hb dM_copy_2 rfl (lv_at hl 0 rfl) ?_
      refine lv_bipush (v := 8) hx hb dM_copy_3 (by decide) ?_
      refine gi_as (y := nI 8) (rfl) ?_
      refine lv_icmp_ge (tgt := 102) hx hb dM_copy_5 (by decide) (fun h1 => ?_) (fun h1 => ?_)
      · skip
        have hj : 8 = j := by omega
        subst hj
        refine lv_aload_n hx hb dM_copy_102 rfl (lv_at hl 1 rfl) ?_
        refine va_get (D := (dC, dI)) (ci := 1) (v := .ref (b 2)) (C := "GroupRowsModel") (T := FM) (N := 11) hx hb hta inM hown hK hP 0 rfl rfl 5 (by decide) (hta _ w283) (fun _ h9 => h9) rfl dM_copy_103 ?_
        refine lv_iload_n hx hb dM_copy_106 rfl (lv_at hl 3 rfl) ?_
        refine lv_aload_n hx hb dM_copy_107 rfl (lv_at hl 1 rfl) ?_
        refine va_get (D := (dC, dI)) (ci := 1) (v := .ref (b 2)) (C := "GroupRowsModel") (T := FM) (N := 11) hx hb hta inM hown hK hP 0 rfl rfl 5 (by decide) (hta _ w283) (fun _ h9 => h9) rfl dM_copy_108 ?_
        refine lv_iload_n hx hb dM_copy_111 rfl (lv_at hl 2 rfl) ?_
        refine gi_lald hx hb hK hP 2 1 rfl rfl (k := x) (by omega) (by decide) dM_copy_112 ?_
        refine gi_last hx hb hK hP hD hS 2 1 rfl rfl (k := y) (by omega) (by decide) dM_copy_113 (fun H locs hP hD hS => ?_)
        have hP : va_P (dC, dI) classes (wM b d cd w2 ms2 n2 (upToI (fun m _ => ks2 (8 * x + m)) (8 * y) ks2 8) (vp_updL ct2 y (ct2 x)) (upTo (fun m _ => sm2 (8 * x + m)) (8 * y) sm2 8) (upTo (fun m _ => le2 (8 * x + m)) (8 * y) le2 8) (upTo (fun m _ => gr2 (8 * x + m)) (8 * y) gr2 8) fk2 fa2) H := hP
        have hD : va_D A (wM b d cd w2 ms2 n2 (upToI (fun m _ => ks2 (8 * x + m)) (8 * y) ks2 8) (vp_updL ct2 y (ct2 x)) (upTo (fun m _ => sm2 (8 * x + m)) (8 * y) sm2 8) (upTo (fun m _ => le2 (8 * x + m)) (8 * y) le2 8) (upTo (fun m _ => gr2 (8 * x + m)) (8 * y) gr2 8) fk2 fa2) := hD
        have hP : va_P (dC, dI) classes (wM b d cd w2 ms2 n2 (upToI (fun m _ => ks2 (8 * x + m)) (8 * y) ks2 8) (vp_updL ct2 y (ct2 x)) (upTo (fun m _ => sm2 (8 * x + m)) (8 * y) sm2 8) (upTo (fun m _ => le2 (8 * x + m)) (8 * y) le2 8) (upTo (fun m _ => gr2 (8 * x + m)) (8 * y) gr2 8) fk2 fa2) H := hP
        have hD : va_D A (wM b d cd w2 ms2 n2 (upToI (fun m _ => ks2 (8 * x + m)) (8 * y) ks2 8) (vp_updL ct2 y (ct2 x)) (upTo (fun m _ => sm2 (8 * x + m)) (8 * y) sm2 8) (upTo (fun m _ => le2 (8 * x + m)) (8 * y) le2 8) (upTo (fun m _ => gr2 (8 * x + m)) (8 * y) gr2 8) fk2 fa2) := hD
        exact W.vret hx hb hr (fun t9 ht9 hW9 => ⟨⟨(), rfl, trivial, by rw [ht9]; exact hP, va_K.moved hW9.alike hK, hD⟩, hS.F ht9⟩) hS.2.2 dM_copy_114
      · skip
        exact absurd (nI_le (by omega) (by omega)) h1
    | succ kk ih =>
      intro j hj H locs hP hD hS ls hl
      refine lv_iload_n hx hb dM_copy_2 rfl (lv_at hl 0 rfl) ?_
      refine lv_bipush (v := 8) hx hb dM_copy_3 (by decide) ?_
      refine gi_as (y := nI 8) (rfl) ?_
      refine lv_icmp_ge (tgt := 102) hx hb dM_copy_5 (by decide) (fun h1 => ?_) (fun h1 => ?_)
      · skip
        exact absurd h1 (nI_ge (a := j) (by omega) (by omega))
      · skip
        refine lv_aload_n hx hb dM_copy_8 rfl (lv_at hl 1 rfl) ?_
        refine va_get (D := (dC, dI)) (ci := 1) (v := .ref (b 1)) (C := "GroupRowsModel") (T := FM) (N := 11) hx hb hta inM hown hK hP 0 rfl rfl 4 (by decide) (hta _ w282) (fun _ h9 => h9) rfl dM_copy_9 ?_
        refine lv_bipush (v := 8) hx hb dM_copy_12 (by decide) ?_
        refine lv_iload_n hx hb dM_copy_14 rfl (lv_at hl 3 rfl) ?_
        refine lv_imul hx hb dM_copy_15 ?_
        refine gi_as (y := nI (8 * y)) (gi_8mul _) ?_
        refine lv_iload_n hx hb dM_copy_16 rfl (lv_at hl 0 rfl) ?_
        refine lv_iadd hx hb dM_copy_17 ?_
        refine gi_as (y := nI ((8 * y) + j)) (nI_add _ _) ?_
        refine lv_aload_n hx hb dM_copy_18 rfl (lv_at hl 1 rfl) ?_
        refine va_get (D := (dC, dI)) (ci := 1) (v := .ref (b 1)) (C := "GroupRowsModel") (T := FM) (N := 11) hx hb hta inM hown hK hP 0 rfl rfl 4 (by decide) (hta _ w282) (fun _ h9 => h9) rfl dM_copy_19 ?_
        refine lv_bipush (v := 8) hx hb dM_copy_22 (by decide) ?_
        refine lv_iload_n hx hb dM_copy_24 rfl (lv_at hl 2 rfl) ?_
        refine lv_imul hx hb dM_copy_25 ?_
        refine gi_as (y := nI (8 * x)) (gi_8mul _) ?_
        refine lv_iload_n hx hb dM_copy_26 rfl (lv_at hl 0 rfl) ?_
        refine lv_iadd hx hb dM_copy_27 ?_
        refine gi_as (y := nI ((8 * x) + j)) (nI_add _ _) ?_
        refine gi_iald hx hb hK hP 1 0 rfl rfl (k := ((8 * x) + j)) (by omega) (by decide) dM_copy_28 ?_
        refine gi_as (y := ks2 (8 * x + j)) (upToI_out j (by omega)) ?_
        refine gi_iast hx hb hK hP hD hS 1 0 rfl rfl (k := ((8 * y) + j)) (by omega) (by decide) dM_copy_29 (fun H locs hP hD hS => ?_)
        have hP : va_P (dC, dI) classes (wM b d cd w2 ms2 n2 (upd (upToI (fun m _ => ks2 (8 * x + m)) (8 * y) ks2 j) ((8 * y) + j) (ks2 (8 * x + j))) ct2 (upTo (fun m _ => sm2 (8 * x + m)) (8 * y) sm2 j) (upTo (fun m _ => le2 (8 * x + m)) (8 * y) le2 j) (upTo (fun m _ => gr2 (8 * x + m)) (8 * y) gr2 j) fk2 fa2) H := hP
        have hD : va_D A (wM b d cd w2 ms2 n2 (upd (upToI (fun m _ => ks2 (8 * x + m)) (8 * y) ks2 j) ((8 * y) + j) (ks2 (8 * x + j))) ct2 (upTo (fun m _ => sm2 (8 * x + m)) (8 * y) sm2 j) (upTo (fun m _ => le2 (8 * x + m)) (8 * y) le2 j) (upTo (fun m _ => gr2 (8 * x + m)) (8 * y) gr2 j) fk2 fa2) := hD
        refine lv_aload_n hx hb dM_copy_30 rfl (lv_at hl 1 rfl) ?_
        refine va_get (D := (dC, dI)) (ci := 1) (v := .ref (b 3)) (C := "GroupRowsModel") (T := FM) (N := 11) hx hb hta inM hown hK hP 0 rfl rfl 6 (by decide) (hta _ w284) (fun _ h9 => h9) rfl dM_copy_31 ?_
        refine lv_bipush (v := 8) hx hb dM_copy_34 (by decide) ?_
        refine lv_iload_n hx hb dM_copy_36 rfl (lv_at hl 3 rfl) ?_
        refine lv_imul hx hb dM_copy_37 ?_
        refine gi_as (y := nI (8 * y)) (gi_8mul _) ?_
        refine lv_iload_n hx hb dM_copy_38 rfl (lv_at hl 0 rfl) ?_
        refine lv_iadd hx hb dM_copy_39 ?_
        refine gi_as (y := nI ((8 * y) + j)) (nI_add _ _) ?_
        refine lv_aload_n hx hb dM_copy_40 rfl (lv_at hl 1 rfl) ?_
        refine va_get (D := (dC, dI)) (ci := 1) (v := .ref (b 3)) (C := "GroupRowsModel") (T := FM) (N := 11) hx hb hta inM hown hK hP 0 rfl rfl 6 (by decide) (hta _ w284) (fun _ h9 => h9) rfl dM_copy_41 ?_
        refine lv_bipush (v := 8) hx hb dM_copy_44 (by decide) ?_
        refine lv_iload_n hx hb dM_copy_46 rfl (lv_at hl 2 rfl) ?_
        refine lv_imul hx hb dM_copy_47 ?_
        refine gi_as (y := nI (8 * x)) (gi_8mul _) ?_
        refine lv_iload_n hx hb dM_copy_48 rfl (lv_at hl 0 rfl) ?_
        refine lv_iadd hx hb dM_copy_49 ?_
        refine gi_as (y := nI ((8 * x) + j)) (nI_add _ _) ?_
        refine gi_lald hx hb hK hP 3 2 rfl rfl (k := ((8 * x) + j)) (by omega) (by decide) dM_copy_50 ?_
        refine gi_asl (y := sm2 (8 * x + j)) (upTo_out j (by omega)) ?_
        refine gi_last hx hb hK hP hD hS 3 2 rfl rfl (k := ((8 * y) + j)) (by omega) (by decide) dM_copy_51 (fun H locs hP hD hS => ?_)
        have hP : va_P (dC, dI) classes (wM b d cd w2 ms2 n2 (upd (upToI (fun m _ => ks2 (8 * x + m)) (8 * y) ks2 j) ((8 * y) + j) (ks2 (8 * x + j))) ct2 (vp_updL (upTo (fun m _ => sm2 (8 * x + m)) (8 * y) sm2 j) ((8 * y) + j) (sm2 (8 * x + j))) (upTo (fun m _ => le2 (8 * x + m)) (8 * y) le2 j) (upTo (fun m _ => gr2 (8 * x + m)) (8 * y) gr2 j) fk2 fa2) H := hP
        have hD : va_D A (wM b d cd w2 ms2 n2 (upd (upToI (fun m _ => ks2 (8 * x + m)) (8 * y) ks2 j) ((8 * y) + j) (ks2 (8 * x + j))) ct2 (vp_updL (upTo (fun m _ => sm2 (8 * x + m)) (8 * y) sm2 j) ((8 * y) + j) (sm2 (8 * x + j))) (upTo (fun m _ => le2 (8 * x + m)) (8 * y) le2 j) (upTo (fun m _ => gr2 (8 * x + m)) (8 * y) gr2 j) fk2 fa2) := hD
        refine lv_aload_n hx hb dM_copy_52 rfl (lv_at hl 1 rfl) ?_
        refine va_get (D := (dC, dI)) (ci := 1) (v := .ref (b 4)) (C := "GroupRowsModel") (T := FM) (N := 11) hx hb hta inM hown hK hP 0 rfl rfl 7 (by decide) (hta _ w285) (fun _ h9 => h9) rfl dM_copy_53 ?_
        refine lv_bipush (v := 8) hx hb dM_copy_56 (by decide) ?_
        refine lv_iload_n hx hb dM_copy_58 rfl (lv_at hl 3 rfl) ?_
        refine lv_imul hx hb dM_copy_59 ?_
        refine gi_as (y := nI (8 * y)) (gi_8mul _) ?_
        refine lv_iload_n hx hb dM_copy_60 rfl (lv_at hl 0 rfl) ?_
        refine lv_iadd hx hb dM_copy_61 ?_
        refine gi_as (y := nI ((8 * y) + j)) (nI_add _ _) ?_
        refine lv_aload_n hx hb dM_copy_62 rfl (lv_at hl 1 rfl) ?_
        refine va_get (D := (dC, dI)) (ci := 1) (v := .ref (b 4)) (C := "GroupRowsModel") (T := FM) (N := 11) hx hb hta inM hown hK hP 0 rfl rfl 7 (by decide) (hta _ w285) (fun _ h9 => h9) rfl dM_copy_63 ?_
        refine lv_bipush (v := 8) hx hb dM_copy_66 (by decide) ?_
        refine lv_iload_n hx hb dM_copy_68 rfl (lv_at hl 2 rfl) ?_
        refine lv_imul hx hb dM_copy_69 ?_
        refine gi_as (y := nI (8 * x)) (gi_8mul _) ?_
        refine lv_iload_n hx hb dM_copy_70 rfl (lv_at hl 0 rfl) ?_
        refine lv_iadd hx hb dM_copy_71 ?_
        refine gi_as (y := nI ((8 * x) + j)) (nI_add _ _) ?_
        refine gi_lald hx hb hK hP 4 3 rfl rfl (k := ((8 * x) + j)) (by omega) (by decide) dM_copy_72 ?_
        refine gi_asl (y := le2 (8 * x + j)) (upTo_out j (by omega)) ?_
        refine gi_last hx hb hK hP hD hS 4 3 rfl rfl (k := ((8 * y) + j)) (by omega) (by decide) dM_copy_73 (fun H locs hP hD hS => ?_)
        have hP : va_P (dC, dI) classes (wM b d cd w2 ms2 n2 (upd (upToI (fun m _ => ks2 (8 * x + m)) (8 * y) ks2 j) ((8 * y) + j) (ks2 (8 * x + j))) ct2 (vp_updL (upTo (fun m _ => sm2 (8 * x + m)) (8 * y) sm2 j) ((8 * y) + j) (sm2 (8 * x + j))) (vp_updL (upTo (fun m _ => le2 (8 * x + m)) (8 * y) le2 j) ((8 * y) + j) (le2 (8 * x + j))) (upTo (fun m _ => gr2 (8 * x + m)) (8 * y) gr2 j) fk2 fa2) H := hP
        have hD : va_D A (wM b d cd w2 ms2 n2 (upd (upToI (fun m _ => ks2 (8 * x + m)) (8 * y) ks2 j) ((8 * y) + j) (ks2 (8 * x + j))) ct2 (vp_updL (upTo (fun m _ => sm2 (8 * x + m)) (8 * y) sm2 j) ((8 * y) + j) (sm2 (8 * x + j))) (vp_updL (upTo (fun m _ => le2 (8 * x + m)) (8 * y) le2 j) ((8 * y) + j) (le2 (8 * x + j))) (upTo (fun m _ => gr2 (8 * x + m)) (8 * y) gr2 j) fk2 fa2) := hD
        refine lv_aload_n hx hb dM_copy_74 rfl (lv_at hl 1 rfl) ?_
        refine va_get (D := (dC, dI)) (ci := 1) (v := .ref (b 5)) (C := "GroupRowsModel") (T := FM) (N := 11) hx hb hta inM hown hK hP 0 rfl rfl 8 (by decide) (hta _ w286) (fun _ h9 => h9) rfl dM_copy_75 ?_
        refine lv_bipush (v := 8) hx hb dM_copy_78 (by decide) ?_
        refine lv_iload_n hx hb dM_copy_80 rfl (lv_at hl 3 rfl) ?_
        refine lv_imul hx hb dM_copy_81 ?_
        refine gi_as (y := nI (8 * y)) (gi_8mul _) ?_
        refine lv_iload_n hx hb dM_copy_82 rfl (lv_at hl 0 rfl) ?_
        refine lv_iadd hx hb dM_copy_83 ?_
        refine gi_as (y := nI ((8 * y) + j)) (nI_add _ _) ?_
        refine lv_aload_n hx hb dM_copy_84 rfl (lv_at hl 1 rfl) ?_
        refine va_get (D := (dC, dI)) (ci := 1) (v := .ref (b 5)) (C := "GroupRowsModel") (T := FM) (N := 11) hx hb hta inM hown hK hP 0 rfl rfl 8 (by decide) (hta _ w286) (fun _ h9 => h9) rfl dM_copy_85 ?_
        refine lv_bipush (v := 8) hx hb dM_copy_88 (by decide) ?_
        refine lv_iload_n hx hb dM_copy_90 rfl (lv_at hl 2 rfl) ?_
        refine lv_imul hx hb dM_copy_91 ?_
        refine gi_as (y := nI (8 * x)) (gi_8mul _) ?_
        refine lv_iload_n hx hb dM_copy_92 rfl (lv_at hl 0 rfl) ?_
        refine lv_iadd hx hb dM_copy_93 ?_
        refine gi_as (y := nI ((8 * x) + j)) (nI_add _ _) ?_
        refine gi_lald hx hb hK hP 5 4 rfl rfl (k := ((8 * x) + j)) (by omega) (by decide) dM_copy_94 ?_
        refine gi_asl (y := gr2 (8 * x + j)) (upTo_out j (by omega)) ?_
        refine gi_last hx hb hK hP hD hS 5 4 rfl rfl (k := ((8 * y) + j)) (by omega) (by decide) dM_copy_95 (fun H locs hP hD hS => ?_)
        have hP : va_P (dC, dI) classes (wM b d cd w2 ms2 n2 (upd (upToI (fun m _ => ks2 (8 * x + m)) (8 * y) ks2 j) ((8 * y) + j) (ks2 (8 * x + j))) ct2 (vp_updL (upTo (fun m _ => sm2 (8 * x + m)) (8 * y) sm2 j) ((8 * y) + j) (sm2 (8 * x + j))) (vp_updL (upTo (fun m _ => le2 (8 * x + m)) (8 * y) le2 j) ((8 * y) + j) (le2 (8 * x + j))) (vp_updL (upTo (fun m _ => gr2 (8 * x + m)) (8 * y) gr2 j) ((8 * y) + j) (gr2 (8 * x + j))) fk2 fa2) H := hP
        have hD : va_D A (wM b d cd w2 ms2 n2 (upd (upToI (fun m _ => ks2 (8 * x + m)) (8 * y) ks2 j) ((8 * y) + j) (ks2 (8 * x + j))) ct2 (vp_updL (upTo (fun m _ => sm2 (8 * x + m)) (8 * y) sm2 j) ((8 * y) + j) (sm2 (8 * x + j))) (vp_updL (upTo (fun m _ => le2 (8 * x + m)) (8 * y) le2 j) ((8 * y) + j) (le2 (8 * x + j))) (vp_updL (upTo (fun m _ => gr2 (8 * x + m)) (8 * y) gr2 j) ((8 * y) + j) (gr2 (8 * x + j))) fk2 fa2) := hD
        refine lv_iinc (v := (nI (j + 1))) (lv' := [(3, .int (nI (j + 1))), (0, .ref (b 0)), (1, .int (nI x)), (2, .int (nI y))]) hx hb dM_copy_96 hl (k := 0) rfl (nI_1 _) (by decide) rfl (fun ls hl => ?_)
        refine lv_goto (tgt := 2) hx hb dM_copy_99 (by decide) ?_
        have hl := lv_sub hl [0, 1, 2, 3] rfl
        have hl : lv_has ls 4 [(3, .int (nI (j + 1))), (0, .ref (b 0)), (1, .int (nI x)), (2, .int (nI y))] := hl
        exact ih (j + 1) (by omega) H locs hP hD hS ls hl
  have hl := lv_sub hl [0, 1, 2, 3] rfl
  have hl : lv_has ls 4 [(3, .int (nI 0)), (0, .ref (b 0)), (1, .int (nI x)), (2, .int (nI y))] := hl
  exact loop 8 0 (by omega) s.heap [] hP hD hS ls hl
