set_option maxHeartbeats 4000000 in
set_option maxRecDepth 100000 in
/-- isKeyAt, the parts being fk -/
theorem c_isKeyAtF (l : Launch) (dC : Nat → ClassId) (dI : Nat → Nat → Nat) (a : Nat → Nat) (k : Nat → ClassId) (wn : Nat) (ms n : Int32) (fk : Nat → Int32) (fa : Nat → Int64) (sl ks : Nat → Int32) (ct sm le gr : Nat → Int64) (σ : Nat → Nat) (pl t am : Nat) (hwn : wn ≤ 8) (hσ : perm σ sl) (hpl : pl ≤ 1000) (ht : t + 8 ≤ 8) (ham : am ≤ 1000) : Met l yX_isKeyAt (Cond.code yX_isKeyAt bX_isKeyAt 5 (some .boolean) :: wAll) { frames := 2, cells := 0, slots := 0, locals := 64 } (va_Pc [.ref (a 0), .int (nI pl), .ref (a 1), .int (nI t), .int (nI am)] (fun U => va_P (dC, dI) classes (wX a k (nI wn) ms n fk fa sl ks ct sm le gr) U.heap ∧ va_K (dC, dI) classes (kX k) U)) (QcV (.int (if pl < am ∧ lx (fun i => ks (8 * σ pl + i)) (fun i => fk (t + i)) wn 0 = 0 then 1 else 0))) 0 0 (fun _ => False) := by
  refine Met.ofW (cc := bX_isKeyAt) (maxL := 5) (ret := (some .boolean)) (by decide) rfl ?_
  intro p e s m args below meth c s₁ B hml hv
  obtain ⟨rfl, hP, hK⟩ := hv
  have hx := B.exec
  have hb := B.bytes
  have hr := B.returns
  have hta : ∀ w ∈ wAll, w.before ([.ref (a 0), .int (nI pl), .ref (a 1), .int (nI t), .int (nI am)] : List Value).toArray s = true := fun w h => atoms_spec (ws := (Cond.code yX_isKeyAt bX_isKeyAt 5 (some .boolean) :: wAll)) B.pre w (List.mem_cons_of_mem _ h)
  have hown : s.vm.findClass "GroupRows" = some m.cls := findClass_of_methodNamed B.named
  have hlocks := B.notSynchronized
  have hP : va_P (dC, dI) classes (wX a k (nI wn) ms n fk fa sl ks ct sm le gr) s.heap := hP
  have hl := lv_entry ([.ref (a 0), .int (nI pl), .ref (a 1), .int (nI t), .int (nI am)]) (n := 5) (Nat.le_of_ble_eq_true rfl)
  rw [lg_entry_eq]
  generalize (lg_sl ([.ref (a 0), .int (nI pl), .ref (a 1), .int (nI t), .int (nI am)]) ++ List.replicate (5 - (lg_sl ([.ref (a 0), .int (nI pl), .ref (a 1), .int (nI t), .int (nI am)])).length) Slot.unset).toArray = ls at hl ⊢
  have hl : lv_has ls 5 [(0, .ref (a 0)), (1, .int (nI pl)), (2, .ref (a 1)), (3, .int (nI t)), (4, .int (nI am))] := hl
  refine lv_iload_n hx hb dX_isKeyAt_0 rfl (lv_at hl 1 rfl) ?_
  refine lv_iload hx hb dX_isKeyAt_1 (lv_at hl 4 rfl) ?_
  refine lv_icmp_ge (tgt := 25) hx hb dX_isKeyAt_3 (by decide) (fun h1 => ?_) (fun h1 => ?_)
  · skip
    have h1 : am ≤ pl := (nI_leI (by omega) (by omega)).mp h1
    refine lv_iconst (v := 0) hx hb dX_isKeyAt_25 (by decide) ?_
    exact W.zret hx hb hr (rfl) (fun t9 ht9 hW9 => ⟨congrArg (fun z => Outcome.returned (some (Value.int z))) ((if_neg (fun q => absurd q.1 (by omega))).symm), ht9⟩) (fun _ h => by cases h) dX_isKeyAt_26
  · skip
    have h1 : pl < am := by
      rcases Nat.lt_or_ge pl am with q | q
      · exact q
      · exact absurd (nI_le q (by omega)) h1
    refine lv_aload_n hx hb dX_isKeyAt_6 rfl (lv_at hl 0 rfl) ?_
    refine lv_aload_n hx hb dX_isKeyAt_7 rfl (lv_at hl 0 rfl) ?_
    refine va_get (D := (dC, dI)) (ci := 0) (v := .ref (a 3)) (C := "GroupRows") (T := FX) (N := 11) hx hb hta inX hown hK hP 0 rfl rfl 5 (by decide) (hta _ w24) (fun _ h9 => h9) rfl dX_isKeyAt_8 ?_
    refine lv_iload_n hx hb dX_isKeyAt_11 rfl (lv_at hl 1 rfl) ?_
    refine gi_iald hx hb hK hP 3 2 rfl rfl (k := pl) (by omega) (by decide) dX_isKeyAt_12 ?_
    refine gi_as (y := nI (σ pl)) (hσ.1 pl (by omega)) ?_
    refine lv_aload_n hx hb dX_isKeyAt_13 rfl (lv_at hl 2 rfl) ?_
    refine lv_iload_n hx hb dX_isKeyAt_14 rfl (lv_at hl 3 rfl) ?_
    refine gi_callR (v := .int (lx (fun i => ks (8 * σ pl + i)) (fun i => fk (t + i)) wn 0)) (W.runV (As := [.int (nI (σ pl)), .ref (a 1), .int (nI t)]) (rest := []) ⟨hx, hb, hml, hown, hta⟩ (c_compareKeyF l dC dI a k wn ms n fk fa sl ks ct sm le gr (σ pl) t hwn (hσ.2.1 pl (by omega)) ht) (cwV 3 hta (gV w67 w69 sX_compareKey w1 w70) rfl rfl rfl (by decide +kernel) ⟨Nat.le_of_ble_eq_true rfl, Nat.le_of_ble_eq_true rfl⟩) ⟨gb_R, va_recv hK hP (ci := 0) (q0 := 0) rfl rfl, fun U hU hW => ⟨rfl, by rw [hU]; exact hP, va_K.moved hW.alike hK⟩⟩ rfl rfl hl.1 rfl (lv_room (Nat.le_of_ble_eq_true rfl)) dX_isKeyAt_15 ⟨Nat.le_of_ble_eq_true rfl, Nat.le_of_ble_eq_true rfl⟩) ?_
    refine lv_if_ne (tgt := 25) hx hb dX_isKeyAt_18 (by decide) (fun h2 => ?_) (fun h2 => ?_)
    · skip
      refine lv_iconst (v := 0) hx hb dX_isKeyAt_25 (by decide) ?_
      exact W.zret hx hb hr (rfl) (fun t9 ht9 hW9 => ⟨congrArg (fun z => Outcome.returned (some (Value.int z))) ((if_neg (fun q => h2 q.2)).symm), ht9⟩) (fun _ h => by cases h) dX_isKeyAt_26
    · skip
      refine lv_iconst (v := 1) hx hb dX_isKeyAt_21 (by decide) ?_
      refine lv_goto (tgt := 26) hx hb dX_isKeyAt_22 (by decide) ?_
      exact W.zret hx hb hr (rfl) (fun t9 ht9 hW9 => ⟨congrArg (fun z => Outcome.returned (some (Value.int z))) ((if_pos ⟨h1, h2⟩).symm), ht9⟩) (fun _ h => by cases h) dX_isKeyAt_26
set_option maxHeartbeats 4000000 in
set_option maxRecDepth 100000 in
/-- lowerPlace, the parts being fk -/
theorem c_lowerPlaceF (l : Launch) (dC : Nat → ClassId) (dI : Nat → Nat → Nat) (a : Nat → Nat) (k : Nat → ClassId) (wn : Nat) (ms n : Int32) (fk : Nat → Int32) (fa : Nat → Int64) (sl ks : Nat → Int32) (ct sm le gr : Nat → Int64) (σ : Nat → Nat) (t am ps : Nat) (hwn : wn ≤ 8) (hσ : perm σ sl) (ht : t + 8 ≤ 8) (ham : am ≤ 1000) (hlow : isLow wn am (fun j i => ks (8 * σ j + i)) (fun i => fk (t + i)) ps) : Met l yX_lowerPlace (Cond.code yX_lowerPlace bX_lowerPlace 7 (some .int) :: wAll) { frames := 2, cells := 0, slots := 0, locals := 64 } (va_Pc [.ref (a 0), .ref (a 1), .int (nI t), .int (nI am)] (fun U => va_P (dC, dI) classes (wX a k (nI wn) ms n fk fa sl ks ct sm le gr) U.heap ∧ va_K (dC, dI) classes (kX k) U)) (QcV (.int (nI ps))) 0 0 (fun _ => False) := by
  refine Met.ofW (cc := bX_lowerPlace) (maxL := 7) (ret := (some .int)) (by decide) rfl ?_
  intro p e s m args below meth c s₁ B hml hv
  obtain ⟨rfl, hP, hK⟩ := hv
  have hx := B.exec
  have hb := B.bytes
  have hr := B.returns
  have hta : ∀ w ∈ wAll, w.before ([.ref (a 0), .ref (a 1), .int (nI t), .int (nI am)] : List Value).toArray s = true := fun w h => atoms_spec (ws := (Cond.code yX_lowerPlace bX_lowerPlace 7 (some .int) :: wAll)) B.pre w (List.mem_cons_of_mem _ h)
  have hown : s.vm.findClass "GroupRows" = some m.cls := findClass_of_methodNamed B.named
  have hlocks := B.notSynchronized
  have hP : va_P (dC, dI) classes (wX a k (nI wn) ms n fk fa sl ks ct sm le gr) s.heap := hP
  have hl := lv_entry ([.ref (a 0), .ref (a 1), .int (nI t), .int (nI am)]) (n := 7) (Nat.le_of_ble_eq_true rfl)
  rw [lg_entry_eq]
  generalize (lg_sl ([.ref (a 0), .ref (a 1), .int (nI t), .int (nI am)]) ++ List.replicate (7 - (lg_sl ([.ref (a 0), .ref (a 1), .int (nI t), .int (nI am)])).length) Slot.unset).toArray = ls at hl ⊢
  have hl : lv_has ls 7 [(0, .ref (a 0)), (1, .ref (a 1)), (2, .int (nI t)), (3, .int (nI am))] := hl
  have hps := hlow.1
  refine lv_iconst (v := 0) hx hb dX_lowerPlace_0 (by decide) ?_
  refine gi_as (y := nI 0) (nI_0.symm) ?_
  refine lv_istore (lv' := [(4, .int (nI 0)), (0, .ref (a 0)), (1, .ref (a 1)), (2, .int (nI t)), (3, .int (nI am))]) hx hb dX_lowerPlace_1 hl (by decide) rfl (fun ls hl => ?_)
  refine lv_sipush (v := 512) hx hb dX_lowerPlace_3 (by decide) ?_
  refine gi_as (y := nI 512) (rfl) ?_
  refine lv_istore (lv' := [(5, .int (nI 512)), (4, .int (nI 0)), (0, .ref (a 0)), (1, .ref (a 1)), (2, .int (nI t)), (3, .int (nI am))]) hx hb dX_lowerPlace_6 hl (by decide) rfl (fun ls hl => ?_)
  have loop : ∀ (dd X lp pl : Nat), X = 2 ^ dd → X ≤ 1024 → lp = X / 2 → pl ≤ ps → ps < pl + X → ∀ (ls : Array Slot), lv_has ls 7 [(4, .int (nI pl)), (5, .int (nI lp)), (0, .ref (a 0)), (1, .ref (a 1)), (2, .int (nI t)), (3, .int (nI am))] → W p l e (headSpec (Cond.code yX_lowerPlace bX_lowerPlace 7 (some .int) :: wAll) { frames := 2, cells := 0, slots := 0, locals := 64 }).room s m ([.ref (a 0), .ref (a 1), .int (nI t), .int (nI am)] : List Value).toArray below meth c s.heap [] 0 0 (MQ below (QcV (.int (nI ps))) ([.ref (a 0), .ref (a 1), .int (nI t), .int (nI am)] : List Value).toArray s 0 0 (fun _ => False)) (F0 m 8 ls []) := by
    intro dd
    induction dd with
    | zero =>
      intro X lp pl hX hX2 hlp h1 h2 ls hl
      have hX : X = 1 := hX
      have hpl : pl = ps := by omega
      have hlp : lp = 0 := by omega
      subst hlp
      refine lv_iload hx hb dX_lowerPlace_8 (lv_at hl 1 rfl) ?_
      refine lv_if_le (tgt := 57) hx hb dX_lowerPlace_10 (by decide) (fun h3 => ?_) (fun h3 => ?_)
      · skip
        refine lv_iload hx hb dX_lowerPlace_57 (lv_at hl 0 rfl) ?_
        exact W.iret hx hb hr (fun t9 ht9 hW9 => ⟨congrArg (fun z => Outcome.returned (some (Value.int z))) (by rw [hpl]), ht9⟩) (fun _ h => by cases h) dX_lowerPlace_59
      · skip
        exact absurd (by rw [nI_0]; decide) h3
    | succ dd ih =>
      intro X lp pl hX hX2 hlp h1 h2 ls hl
      obtain ⟨PP, hPP⟩ : ∃ PP, PP = 2 ^ dd := ⟨_, rfl⟩
      have hP1 : 1 ≤ PP := by rw [hPP]; exact Nat.one_le_two_pow
      have hX' : X = 2 * PP := by rw [hX, Nat.pow_succ, ← hPP]; omega
      have hlp' : lp = PP := by omega
      refine lv_iload hx hb dX_lowerPlace_8 (lv_at hl 1 rfl) ?_
      refine lv_if_le (tgt := 57) hx hb dX_lowerPlace_10 (by decide) (fun h3 => ?_) (fun h3 => ?_)
      · skip
        exact absurd h3 (nI_nle (by omega) (by omega))
      · skip
        refine lv_iload hx hb dX_lowerPlace_13 (lv_at hl 0 rfl) ?_
        refine lv_iload hx hb dX_lowerPlace_15 (lv_at hl 1 rfl) ?_
        refine lv_iadd hx hb dX_lowerPlace_17 ?_
        refine gi_as (y := nI (pl + lp)) (nI_add _ _) ?_
        refine lv_istore (lv' := [(6, .int (nI (pl + lp))), (4, .int (nI pl)), (5, .int (nI lp)), (0, .ref (a 0)), (1, .ref (a 1)), (2, .int (nI t)), (3, .int (nI am))]) hx hb dX_lowerPlace_18 hl (by decide) rfl (fun ls hl => ?_)
        refine lv_iload hx hb dX_lowerPlace_20 (lv_at hl 0 rfl) ?_
        refine lv_iload_n hx hb dX_lowerPlace_22 rfl (lv_at hl 6 rfl) ?_
        refine lv_icmp_gt (tgt := 48) hx hb dX_lowerPlace_23 (by decide) (fun h4 => ?_) (fun h4 => ?_)
        · skip
          have h4 : am < pl + lp := (nI_ltI (by omega) (by omega)).mp h4
          refine lv_iload hx hb dX_lowerPlace_48 (lv_at hl 2 rfl) ?_
          refine lv_iconst (v := 2) hx hb dX_lowerPlace_50 (by decide) ?_
          refine lv_idiv hx hb dX_lowerPlace_51 (by decide) ?_
          refine gi_as (y := nI (lp / 2)) (gi_half (by omega)) ?_
          refine lv_istore (lv' := [(5, .int (nI (lp / 2))), (6, .int (nI (pl + lp))), (4, .int (nI pl)), (0, .ref (a 0)), (1, .ref (a 1)), (2, .int (nI t)), (3, .int (nI am))]) hx hb dX_lowerPlace_52 hl (by decide) rfl (fun ls hl => ?_)
          refine lv_goto (tgt := 8) hx hb dX_lowerPlace_54 (by decide) ?_
          have hl := lv_sub hl [2, 0, 3, 4, 5, 6] rfl
          have hl : lv_has ls 7 [(4, .int (nI pl)), (5, .int (nI (lp / 2))), (0, .ref (a 0)), (1, .ref (a 1)), (2, .int (nI t)), (3, .int (nI am))] := hl
          exact ih PP (lp / 2) pl hPP (by omega) (by omega) (by omega) (by omega) ls hl
        · skip
          have h4 : pl + lp ≤ am := by
            rcases Nat.lt_or_ge am (pl + lp) with q | q
            · exact absurd (nI_lt q (by omega)) h4
            · exact q
          refine lv_aload_n hx hb dX_lowerPlace_26 rfl (lv_at hl 3 rfl) ?_
          refine lv_aload_n hx hb dX_lowerPlace_27 rfl (lv_at hl 3 rfl) ?_
          refine va_get (D := (dC, dI)) (ci := 0) (v := .ref (a 3)) (C := "GroupRows") (T := FX) (N := 11) hx hb hta inX hown hK hP 0 rfl rfl 5 (by decide) (hta _ w24) (fun _ h9 => h9) rfl dX_lowerPlace_28 ?_
          refine lv_iload hx hb dX_lowerPlace_31 (lv_at hl 0 rfl) ?_
          refine lv_iconst (v := 1) hx hb dX_lowerPlace_33 (by decide) ?_
          refine lv_isub hx hb dX_lowerPlace_34 ?_
          refine gi_as (y := nI (pl + lp - 1)) (pk_sub (b := 1) (by omega)) ?_
          refine gi_iald hx hb hK hP 3 2 rfl rfl (k := (pl + lp - 1)) (by omega) (by decide) dX_lowerPlace_35 ?_
          refine gi_as (y := nI (σ (pl + lp - 1))) (hσ.1 _ (by omega)) ?_
          refine lv_aload_n hx hb dX_lowerPlace_36 rfl (lv_at hl 4 rfl) ?_
          refine lv_iload_n hx hb dX_lowerPlace_37 rfl (lv_at hl 5 rfl) ?_
          refine gi_callR (v := .int (lx (fun i => ks (8 * σ (pl + lp - 1) + i)) (fun i => fk (t + i)) wn 0)) (W.runV (As := [.int (nI (σ (pl + lp - 1))), .ref (a 1), .int (nI t)]) (rest := []) ⟨hx, hb, hml, hown, hta⟩ (c_compareKeyF l dC dI a k wn ms n fk fa sl ks ct sm le gr (σ (pl + lp - 1)) t hwn (hσ.2.1 _ (by omega)) ht) (cwV 3 hta (gV w67 w69 sX_compareKey w1 w70) rfl rfl rfl (by decide +kernel) ⟨Nat.le_of_ble_eq_true rfl, Nat.le_of_ble_eq_true rfl⟩) ⟨gb_R, va_recv hK hP (ci := 0) (q0 := 0) rfl rfl, fun U hU hW => ⟨rfl, by rw [hU]; exact hP, va_K.moved hW.alike hK⟩⟩ rfl rfl hl.1 rfl (lv_room (Nat.le_of_ble_eq_true rfl)) dX_lowerPlace_38 ⟨Nat.le_of_ble_eq_true rfl, Nat.le_of_ble_eq_true rfl⟩) ?_
          refine lv_if_ge (tgt := 48) hx hb dX_lowerPlace_41 (by decide) (fun h5 => ?_) (fun h5 => ?_)
          · skip
            have h5 : ps < pl + lp := by
              rcases Nat.lt_or_ge ps (pl + lp) with q | q
              · exact q
              · exact absurd (lx_lt.mpr (hlow.2.1 (pl + lp - 1) (by omega))) (Int32.not_lt.mpr h5)
            refine lv_iload hx hb dX_lowerPlace_48 (lv_at hl 2 rfl) ?_
            refine lv_iconst (v := 2) hx hb dX_lowerPlace_50 (by decide) ?_
            refine lv_idiv hx hb dX_lowerPlace_51 (by decide) ?_
            refine gi_as (y := nI (lp / 2)) (gi_half (by omega)) ?_
            refine lv_istore (lv' := [(5, .int (nI (lp / 2))), (6, .int (nI (pl + lp))), (4, .int (nI pl)), (0, .ref (a 0)), (1, .ref (a 1)), (2, .int (nI t)), (3, .int (nI am))]) hx hb dX_lowerPlace_52 hl (by decide) rfl (fun ls hl => ?_)
            refine lv_goto (tgt := 8) hx hb dX_lowerPlace_54 (by decide) ?_
            have hl := lv_sub hl [2, 0, 3, 4, 5, 6] rfl
            have hl : lv_has ls 7 [(4, .int (nI pl)), (5, .int (nI (lp / 2))), (0, .ref (a 0)), (1, .ref (a 1)), (2, .int (nI t)), (3, .int (nI am))] := hl
            exact ih PP (lp / 2) pl hPP (by omega) (by omega) (by omega) (by omega) ls hl
          · skip
            have h5 : pl + lp ≤ ps := by
              rcases Nat.lt_or_ge ps (pl + lp) with q | q
              · exact absurd (lx_lt.mp (Int32.not_le.mp h5)) (hlow.2.2 (pl + lp - 1) (by omega) (by omega))
              · exact q
            refine lv_iload hx hb dX_lowerPlace_44 (lv_at hl 0 rfl) ?_
            refine lv_istore (lv' := [(4, .int (nI (pl + lp))), (6, .int (nI (pl + lp))), (5, .int (nI lp)), (0, .ref (a 0)), (1, .ref (a 1)), (2, .int (nI t)), (3, .int (nI am))]) hx hb dX_lowerPlace_46 hl (by decide) rfl (fun ls hl => ?_)
            refine lv_iload hx hb dX_lowerPlace_48 (lv_at hl 2 rfl) ?_
            refine lv_iconst (v := 2) hx hb dX_lowerPlace_50 (by decide) ?_
            refine lv_idiv hx hb dX_lowerPlace_51 (by decide) ?_
            refine gi_as (y := nI (lp / 2)) (gi_half (by omega)) ?_
            refine lv_istore (lv' := [(5, .int (nI (lp / 2))), (4, .int (nI (pl + lp))), (6, .int (nI (pl + lp))), (0, .ref (a 0)), (1, .ref (a 1)), (2, .int (nI t)), (3, .int (nI am))]) hx hb dX_lowerPlace_52 hl (by decide) rfl (fun ls hl => ?_)
            refine lv_goto (tgt := 8) hx hb dX_lowerPlace_54 (by decide) ?_
            have hl := lv_sub hl [1, 0, 3, 4, 5, 6] rfl
            have hl : lv_has ls 7 [(4, .int (nI (pl + lp))), (5, .int (nI (lp / 2))), (0, .ref (a 0)), (1, .ref (a 1)), (2, .int (nI t)), (3, .int (nI am))] := hl
            exact ih PP (lp / 2) (pl + lp) hPP (by omega) (by omega) (by omega) (by omega) ls hl
  have hl := lv_sub hl [1, 0, 2, 3, 4, 5] rfl
  have hl : lv_has ls 7 [(4, .int (nI 0)), (5, .int (nI 512)), (0, .ref (a 0)), (1, .ref (a 1)), (2, .int (nI t)), (3, .int (nI am))] := hl
  exact loop 10 1024 512 0 rfl (by omega) rfl (by omega) (by omega) ls hl
set_option maxHeartbeats 4000000 in
set_option maxRecDepth 100000 in
/-- isKeyAt, the parts being ks -/
theorem c_isKeyAtK (l : Launch) (dC : Nat → ClassId) (dI : Nat → Nat → Nat) (a : Nat → Nat) (k : Nat → ClassId) (wn : Nat) (ms n : Int32) (fk : Nat → Int32) (fa : Nat → Int64) (sl ks : Nat → Int32) (ct sm le gr : Nat → Int64) (σ : Nat → Nat) (pl t am : Nat) (hwn : wn ≤ 8) (hσ : perm σ sl) (hpl : pl ≤ 1000) (ht : t + 8 ≤ 8000) (ham : am ≤ 1000) : Met l yX_isKeyAt (Cond.code yX_isKeyAt bX_isKeyAt 5 (some .boolean) :: wAll) { frames := 2, cells := 0, slots := 0, locals := 64 } (va_Pc [.ref (a 0), .int (nI pl), .ref (a 4), .int (nI t), .int (nI am)] (fun U => va_P (dC, dI) classes (wX a k (nI wn) ms n fk fa sl ks ct sm le gr) U.heap ∧ va_K (dC, dI) classes (kX k) U)) (QcV (.int (if pl < am ∧ lx (fun i => ks (8 * σ pl + i)) (fun i => ks (t + i)) wn 0 = 0 then 1 else 0))) 0 0 (fun _ => False) := by
  refine Met.ofW (cc := bX_isKeyAt) (maxL := 5) (ret := (some .boolean)) (by decide) rfl ?_
  intro p e s m args below meth c s₁ B hml hv
  obtain ⟨rfl, hP, hK⟩ := hv
  have hx := B.exec
  have hb := B.bytes
  have hr := B.returns
  have hta : ∀ w ∈ wAll, w.before ([.ref (a 0), .int (nI pl), .ref (a 4), .int (nI t), .int (nI am)] : List Value).toArray s = true := fun w h => atoms_spec (ws := (Cond.code yX_isKeyAt bX_isKeyAt 5 (some .boolean) :: wAll)) B.pre w (List.mem_cons_of_mem _ h)
  have hown : s.vm.findClass "GroupRows" = some m.cls := findClass_of_methodNamed B.named
  have hlocks := B.notSynchronized
  have hP : va_P (dC, dI) classes (wX a k (nI wn) ms n fk fa sl ks ct sm le gr) s.heap := hP
  have hl := lv_entry ([.ref (a 0), .int (nI pl), .ref (a 4), .int (nI t), .int (nI am)]) (n := 5) (Nat.le_of_ble_eq_true rfl)
  rw [lg_entry_eq]
  generalize (lg_sl ([.ref (a 0), .int (nI pl), .ref (a 4), .int (nI t), .int (nI am)]) ++ List.replicate (5 - (lg_sl ([.ref (a 0), .int (nI pl), .ref (a 4), .int (nI t), .int (nI am)])).length) Slot.unset).toArray = ls at hl ⊢
  have hl : lv_has ls 5 [(0, .ref (a 0)), (1, .int (nI pl)), (2, .ref (a 4)), (3, .int (nI t)), (4, .int (nI am))] := hl
  refine lv_iload_n hx hb dX_isKeyAt_0 rfl (lv_at hl 1 rfl) ?_
  refine lv_iload hx hb dX_isKeyAt_1 (lv_at hl 4 rfl) ?_
  refine lv_icmp_ge (tgt := 25) hx hb dX_isKeyAt_3 (by decide) (fun h1 => ?_) (fun h1 => ?_)
  · skip
    have h1 : am ≤ pl := (nI_leI (by omega) (by omega)).mp h1
    refine lv_iconst (v := 0) hx hb dX_isKeyAt_25 (by decide) ?_
    exact W.zret hx hb hr (rfl) (fun t9 ht9 hW9 => ⟨congrArg (fun z => Outcome.returned (some (Value.int z))) ((if_neg (fun q => absurd q.1 (by omega))).symm), ht9⟩) (fun _ h => by cases h) dX_isKeyAt_26
  · skip
    have h1 : pl < am := by
      rcases Nat.lt_or_ge pl am with q | q
      · exact q
      · exact absurd (nI_le q (by omega)) h1
    refine lv_aload_n hx hb dX_isKeyAt_6 rfl (lv_at hl 0 rfl) ?_
    refine lv_aload_n hx hb dX_isKeyAt_7 rfl (lv_at hl 0 rfl) ?_
    refine va_get (D := (dC, dI)) (ci := 0) (v := .ref (a 3)) (C := "GroupRows") (T := FX) (N := 11) hx hb hta inX hown hK hP 0 rfl rfl 5 (by decide) (hta _ w24) (fun _ h9 => h9) rfl dX_isKeyAt_8 ?_
    refine lv_iload_n hx hb dX_isKeyAt_11 rfl (lv_at hl 1 rfl) ?_
    refine gi_iald hx hb hK hP 3 2 rfl rfl (k := pl) (by omega) (by decide) dX_isKeyAt_12 ?_
    refine gi_as (y := nI (σ pl)) (hσ.1 pl (by omega)) ?_
    refine lv_aload_n hx hb dX_isKeyAt_13 rfl (lv_at hl 2 rfl) ?_
    refine lv_iload_n hx hb dX_isKeyAt_14 rfl (lv_at hl 3 rfl) ?_
    refine gi_callR (v := .int (lx (fun i => ks (8 * σ pl + i)) (fun i => ks (t + i)) wn 0)) (W.runV (As := [.int (nI (σ pl)), .ref (a 4), .int (nI t)]) (rest := []) ⟨hx, hb, hml, hown, hta⟩ (c_compareKeyK l dC dI a k wn ms n fk fa sl ks ct sm le gr (σ pl) t hwn (hσ.2.1 pl (by omega)) ht) (cwV 3 hta (gV w67 w69 sX_compareKey w1 w70) rfl rfl rfl (by decide +kernel) ⟨Nat.le_of_ble_eq_true rfl, Nat.le_of_ble_eq_true rfl⟩) ⟨gb_R, va_recv hK hP (ci := 0) (q0 := 0) rfl rfl, fun U hU hW => ⟨rfl, by rw [hU]; exact hP, va_K.moved hW.alike hK⟩⟩ rfl rfl hl.1 rfl (lv_room (Nat.le_of_ble_eq_true rfl)) dX_isKeyAt_15 ⟨Nat.le_of_ble_eq_true rfl, Nat.le_of_ble_eq_true rfl⟩) ?_
    refine lv_if_ne (tgt := 25) hx hb dX_isKeyAt_18 (by decide) (fun h2 => ?_) (fun h2 => ?_)
    · skip
      refine lv_iconst (v := 0) hx hb dX_isKeyAt_25 (by decide) ?_
      exact W.zret hx hb hr (rfl) (fun t9 ht9 hW9 => ⟨congrArg (fun z => Outcome.returned (some (Value.int z))) ((if_neg (fun q => h2 q.2)).symm), ht9⟩) (fun _ h => by cases h) dX_isKeyAt_26
    · skip
      refine lv_iconst (v := 1) hx hb dX_isKeyAt_21 (by decide) ?_
      refine lv_goto (tgt := 26) hx hb dX_isKeyAt_22 (by decide) ?_
      exact W.zret hx hb hr (rfl) (fun t9 ht9 hW9 => ⟨congrArg (fun z => Outcome.returned (some (Value.int z))) ((if_pos ⟨h1, h2⟩).symm), ht9⟩) (fun _ h => by cases h) dX_isKeyAt_26
set_option maxHeartbeats 4000000 in
set_option maxRecDepth 100000 in
/-- lowerPlace, the parts being ks -/
theorem c_lowerPlaceK (l : Launch) (dC : Nat → ClassId) (dI : Nat → Nat → Nat) (a : Nat → Nat) (k : Nat → ClassId) (wn : Nat) (ms n : Int32) (fk : Nat → Int32) (fa : Nat → Int64) (sl ks : Nat → Int32) (ct sm le gr : Nat → Int64) (σ : Nat → Nat) (t am ps : Nat) (hwn : wn ≤ 8) (hσ : perm σ sl) (ht : t + 8 ≤ 8000) (ham : am ≤ 1000) (hlow : isLow wn am (fun j i => ks (8 * σ j + i)) (fun i => ks (t + i)) ps) : Met l yX_lowerPlace (Cond.code yX_lowerPlace bX_lowerPlace 7 (some .int) :: wAll) { frames := 2, cells := 0, slots := 0, locals := 64 } (va_Pc [.ref (a 0), .ref (a 4), .int (nI t), .int (nI am)] (fun U => va_P (dC, dI) classes (wX a k (nI wn) ms n fk fa sl ks ct sm le gr) U.heap ∧ va_K (dC, dI) classes (kX k) U)) (QcV (.int (nI ps))) 0 0 (fun _ => False) := by
  refine Met.ofW (cc := bX_lowerPlace) (maxL := 7) (ret := (some .int)) (by decide) rfl ?_
  intro p e s m args below meth c s₁ B hml hv
  obtain ⟨rfl, hP, hK⟩ := hv
  have hx := B.exec
  have hb := B.bytes
  have hr := B.returns
  have hta : ∀ w ∈ wAll, w.before ([.ref (a 0), .ref (a 4), .int (nI t), .int (nI am)] : List Value).toArray s = true := fun w h => atoms_spec (ws := (Cond.code yX_lowerPlace bX_lowerPlace 7 (some .int) :: wAll)) B.pre w (List.mem_cons_of_mem _ h)
  have hown : s.vm.findClass "GroupRows" = some m.cls := findClass_of_methodNamed B.named
  have hlocks := B.notSynchronized
  have hP : va_P (dC, dI) classes (wX a k (nI wn) ms n fk fa sl ks ct sm le gr) s.heap := hP
  have hl := lv_entry ([.ref (a 0), .ref (a 4), .int (nI t), .int (nI am)]) (n := 7) (Nat.le_of_ble_eq_true rfl)
  rw [lg_entry_eq]
  generalize (lg_sl ([.ref (a 0), .ref (a 4), .int (nI t), .int (nI am)]) ++ List.replicate (7 - (lg_sl ([.ref (a 0), .ref (a 4), .int (nI t), .int (nI am)])).length) Slot.unset).toArray = ls at hl ⊢
  have hl : lv_has ls 7 [(0, .ref (a 0)), (1, .ref (a 4)), (2, .int (nI t)), (3, .int (nI am))] := hl
  have hps := hlow.1
  refine lv_iconst (v := 0) hx hb dX_lowerPlace_0 (by decide) ?_
  refine gi_as (y := nI 0) (nI_0.symm) ?_
  refine lv_istore (lv' := [(4, .int (nI 0)), (0, .ref (a 0)), (1, .ref (a 4)), (2, .int (nI t)), (3, .int (nI am))]) hx hb dX_lowerPlace_1 hl (by decide) rfl (fun ls hl => ?_)
  refine lv_sipush (v := 512) hx hb dX_lowerPlace_3 (by decide) ?_
  refine gi_as (y := nI 512) (rfl) ?_
  refine lv_istore (lv' := [(5, .int (nI 512)), (4, .int (nI 0)), (0, .ref (a 0)), (1, .ref (a 4)), (2, .int (nI t)), (3, .int (nI am))]) hx hb dX_lowerPlace_6 hl (by decide) rfl (fun ls hl => ?_)
  have loop : ∀ (dd X lp pl : Nat), X = 2 ^ dd → X ≤ 1024 → lp = X / 2 → pl ≤ ps → ps < pl + X → ∀ (ls : Array Slot), lv_has ls 7 [(4, .int (nI pl)), (5, .int (nI lp)), (0, .ref (a 0)), (1, .ref (a 4)), (2, .int (nI t)), (3, .int (nI am))] → W p l e (headSpec (Cond.code yX_lowerPlace bX_lowerPlace 7 (some .int) :: wAll) { frames := 2, cells := 0, slots := 0, locals := 64 }).room s m ([.ref (a 0), .ref (a 4), .int (nI t), .int (nI am)] : List Value).toArray below meth c s.heap [] 0 0 (MQ below (QcV (.int (nI ps))) ([.ref (a 0), .ref (a 4), .int (nI t), .int (nI am)] : List Value).toArray s 0 0 (fun _ => False)) (F0 m 8 ls []) := by
    intro dd
    induction dd with
    | zero =>
      intro X lp pl hX hX2 hlp h1 h2 ls hl
      have hX : X = 1 := hX
      have hpl : pl = ps := by omega
      have hlp : lp = 0 := by omega
      subst hlp
      refine lv_iload hx hb dX_lowerPlace_8 (lv_at hl 1 rfl) ?_
      refine lv_if_le (tgt := 57) hx hb dX_lowerPlace_10 (by decide) (fun h3 => ?_) (fun h3 => ?_)
      · skip
        refine lv_iload hx hb dX_lowerPlace_57 (lv_at hl 0 rfl) ?_
        exact W.iret hx hb hr (fun t9 ht9 hW9 => ⟨congrArg (fun z => Outcome.returned (some (Value.int z))) (by rw [hpl]), ht9⟩) (fun _ h => by cases h) dX_lowerPlace_59
      · skip
        exact absurd (by rw [nI_0]; decide) h3
    | succ dd ih =>
      intro X lp pl hX hX2 hlp h1 h2 ls hl
      obtain ⟨PP, hPP⟩ : ∃ PP, PP = 2 ^ dd := ⟨_, rfl⟩
      have hP1 : 1 ≤ PP := by rw [hPP]; exact Nat.one_le_two_pow
      have hX' : X = 2 * PP := by rw [hX, Nat.pow_succ, ← hPP]; omega
      have hlp' : lp = PP := by omega
      refine lv_iload hx hb dX_lowerPlace_8 (lv_at hl 1 rfl) ?_
      refine lv_if_le (tgt := 57) hx hb dX_lowerPlace_10 (by decide) (fun h3 => ?_) (fun h3 => ?_)
      · skip
        exact absurd h3 (nI_nle (by omega) (by omega))
      · skip
        refine lv_iload hx hb dX_lowerPlace_13 (lv_at hl 0 rfl) ?_
        refine lv_iload hx hb dX_lowerPlace_15 (lv_at hl 1 rfl) ?_
        refine lv_iadd hx hb dX_lowerPlace_17 ?_
        refine gi_as (y := nI (pl + lp)) (nI_add _ _) ?_
        refine lv_istore (lv' := [(6, .int (nI (pl + lp))), (4, .int (nI pl)), (5, .int (nI lp)), (0, .ref (a 0)), (1, .ref (a 4)), (2, .int (nI t)), (3, .int (nI am))]) hx hb dX_lowerPlace_18 hl (by decide) rfl (fun ls hl => ?_)
        refine lv_iload hx hb dX_lowerPlace_20 (lv_at hl 0 rfl) ?_
        refine lv_iload_n hx hb dX_lowerPlace_22 rfl (lv_at hl 6 rfl) ?_
        refine lv_icmp_gt (tgt := 48) hx hb dX_lowerPlace_23 (by decide) (fun h4 => ?_) (fun h4 => ?_)
        · skip
          have h4 : am < pl + lp := (nI_ltI (by omega) (by omega)).mp h4
          refine lv_iload hx hb dX_lowerPlace_48 (lv_at hl 2 rfl) ?_
          refine lv_iconst (v := 2) hx hb dX_lowerPlace_50 (by decide) ?_
          refine lv_idiv hx hb dX_lowerPlace_51 (by decide) ?_
          refine gi_as (y := nI (lp / 2)) (gi_half (by omega)) ?_
          refine lv_istore (lv' := [(5, .int (nI (lp / 2))), (6, .int (nI (pl + lp))), (4, .int (nI pl)), (0, .ref (a 0)), (1, .ref (a 4)), (2, .int (nI t)), (3, .int (nI am))]) hx hb dX_lowerPlace_52 hl (by decide) rfl (fun ls hl => ?_)
          refine lv_goto (tgt := 8) hx hb dX_lowerPlace_54 (by decide) ?_
          have hl := lv_sub hl [2, 0, 3, 4, 5, 6] rfl
          have hl : lv_has ls 7 [(4, .int (nI pl)), (5, .int (nI (lp / 2))), (0, .ref (a 0)), (1, .ref (a 4)), (2, .int (nI t)), (3, .int (nI am))] := hl
          exact ih PP (lp / 2) pl hPP (by omega) (by omega) (by omega) (by omega) ls hl
        · skip
          have h4 : pl + lp ≤ am := by
            rcases Nat.lt_or_ge am (pl + lp) with q | q
            · exact absurd (nI_lt q (by omega)) h4
            · exact q
          refine lv_aload_n hx hb dX_lowerPlace_26 rfl (lv_at hl 3 rfl) ?_
          refine lv_aload_n hx hb dX_lowerPlace_27 rfl (lv_at hl 3 rfl) ?_
          refine va_get (D := (dC, dI)) (ci := 0) (v := .ref (a 3)) (C := "GroupRows") (T := FX) (N := 11) hx hb hta inX hown hK hP 0 rfl rfl 5 (by decide) (hta _ w24) (fun _ h9 => h9) rfl dX_lowerPlace_28 ?_
          refine lv_iload hx hb dX_lowerPlace_31 (lv_at hl 0 rfl) ?_
          refine lv_iconst (v := 1) hx hb dX_lowerPlace_33 (by decide) ?_
          refine lv_isub hx hb dX_lowerPlace_34 ?_
          refine gi_as (y := nI (pl + lp - 1)) (pk_sub (b := 1) (by omega)) ?_
          refine gi_iald hx hb hK hP 3 2 rfl rfl (k := (pl + lp - 1)) (by omega) (by decide) dX_lowerPlace_35 ?_
          refine gi_as (y := nI (σ (pl + lp - 1))) (hσ.1 _ (by omega)) ?_
          refine lv_aload_n hx hb dX_lowerPlace_36 rfl (lv_at hl 4 rfl) ?_
          refine lv_iload_n hx hb dX_lowerPlace_37 rfl (lv_at hl 5 rfl) ?_
          refine gi_callR (v := .int (lx (fun i => ks (8 * σ (pl + lp - 1) + i)) (fun i => ks (t + i)) wn 0)) (W.runV (As := [.int (nI (σ (pl + lp - 1))), .ref (a 4), .int (nI t)]) (rest := []) ⟨hx, hb, hml, hown, hta⟩ (c_compareKeyK l dC dI a k wn ms n fk fa sl ks ct sm le gr (σ (pl + lp - 1)) t hwn (hσ.2.1 _ (by omega)) ht) (cwV 3 hta (gV w67 w69 sX_compareKey w1 w70) rfl rfl rfl (by decide +kernel) ⟨Nat.le_of_ble_eq_true rfl, Nat.le_of_ble_eq_true rfl⟩) ⟨gb_R, va_recv hK hP (ci := 0) (q0 := 0) rfl rfl, fun U hU hW => ⟨rfl, by rw [hU]; exact hP, va_K.moved hW.alike hK⟩⟩ rfl rfl hl.1 rfl (lv_room (Nat.le_of_ble_eq_true rfl)) dX_lowerPlace_38 ⟨Nat.le_of_ble_eq_true rfl, Nat.le_of_ble_eq_true rfl⟩) ?_
          refine lv_if_ge (tgt := 48) hx hb dX_lowerPlace_41 (by decide) (fun h5 => ?_) (fun h5 => ?_)
          · skip
            have h5 : ps < pl + lp := by
              rcases Nat.lt_or_ge ps (pl + lp) with q | q
              · exact q
              · exact absurd (lx_lt.mpr (hlow.2.1 (pl + lp - 1) (by omega))) (Int32.not_lt.mpr h5)
            refine lv_iload hx hb dX_lowerPlace_48 (lv_at hl 2 rfl) ?_
            refine lv_iconst (v := 2) hx hb dX_lowerPlace_50 (by decide) ?_
            refine lv_idiv hx hb dX_lowerPlace_51 (by decide) ?_
            refine gi_as (y := nI (lp / 2)) (gi_half (by omega)) ?_
            refine lv_istore (lv' := [(5, .int (nI (lp / 2))), (6, .int (nI (pl + lp))), (4, .int (nI pl)), (0, .ref (a 0)), (1, .ref (a 4)), (2, .int (nI t)), (3, .int (nI am))]) hx hb dX_lowerPlace_52 hl (by decide) rfl (fun ls hl => ?_)
            refine lv_goto (tgt := 8) hx hb dX_lowerPlace_54 (by decide) ?_
            have hl := lv_sub hl [2, 0, 3, 4, 5, 6] rfl
            have hl : lv_has ls 7 [(4, .int (nI pl)), (5, .int (nI (lp / 2))), (0, .ref (a 0)), (1, .ref (a 4)), (2, .int (nI t)), (3, .int (nI am))] := hl
            exact ih PP (lp / 2) pl hPP (by omega) (by omega) (by omega) (by omega) ls hl
          · skip
            have h5 : pl + lp ≤ ps := by
              rcases Nat.lt_or_ge ps (pl + lp) with q | q
              · exact absurd (lx_lt.mp (Int32.not_le.mp h5)) (hlow.2.2 (pl + lp - 1) (by omega) (by omega))
              · exact q
            refine lv_iload hx hb dX_lowerPlace_44 (lv_at hl 0 rfl) ?_
            refine lv_istore (lv' := [(4, .int (nI (pl + lp))), (6, .int (nI (pl + lp))), (5, .int (nI lp)), (0, .ref (a 0)), (1, .ref (a 4)), (2, .int (nI t)), (3, .int (nI am))]) hx hb dX_lowerPlace_46 hl (by decide) rfl (fun ls hl => ?_)
            refine lv_iload hx hb dX_lowerPlace_48 (lv_at hl 2 rfl) ?_
            refine lv_iconst (v := 2) hx hb dX_lowerPlace_50 (by decide) ?_
            refine lv_idiv hx hb dX_lowerPlace_51 (by decide) ?_
            refine gi_as (y := nI (lp / 2)) (gi_half (by omega)) ?_
            refine lv_istore (lv' := [(5, .int (nI (lp / 2))), (4, .int (nI (pl + lp))), (6, .int (nI (pl + lp))), (0, .ref (a 0)), (1, .ref (a 4)), (2, .int (nI t)), (3, .int (nI am))]) hx hb dX_lowerPlace_52 hl (by decide) rfl (fun ls hl => ?_)
            refine lv_goto (tgt := 8) hx hb dX_lowerPlace_54 (by decide) ?_
            have hl := lv_sub hl [1, 0, 3, 4, 5, 6] rfl
            have hl : lv_has ls 7 [(4, .int (nI (pl + lp))), (5, .int (nI (lp / 2))), (0, .ref (a 0)), (1, .ref (a 4)), (2, .int (nI t)), (3, .int (nI am))] := hl
            exact ih PP (lp / 2) (pl + lp) hPP (by omega) (by omega) (by omega) (by omega) ls hl
  have hl := lv_sub hl [1, 0, 2, 3, 4, 5] rfl
  have hl : lv_has ls 7 [(4, .int (nI 0)), (5, .int (nI 512)), (0, .ref (a 0)), (1, .ref (a 4)), (2, .int (nI t)), (3, .int (nI am))] := hl
  exact loop 10 1024 512 0 rfl (by omega) rfl (by omega) (by omega) ls hl
