set_option maxHeartbeats 4000000 in
set_option maxRecDepth 100000 in
/-- regroup -/
theorem c_regroup (l : Launch) (dC : Nat → ClassId) (dI : Nat → Nat → Nat) (a : Nat → Nat) (k : Nat → ClassId) (wn mn nn : Nat) (fk : Nat → Int32) (fa : Nat → Int64) (σ : Nat → Nat) (sl ks : Nat → Int32) (ct sm le gr : Nat → Int64) (hσ : perm σ sl) (hwn : wn ≤ 8) (hmn : mn ≤ 8) (hnn : nn ≤ 1000) (sz : Nat)  : Met l yX_regroup (Cond.code yX_regroup bX_regroup 6 (some .int) :: wAll) { frames := 3, cells := 0, slots := 0, locals := 128 } (va_Pc [.ref (a 0)] (fun U => U.heap.size = sz ∧ va_P (dC, dI) classes (wX a k (nI wn) (nI mn) (nI nn) fk fa sl ks ct sm le gr) U.heap ∧ va_K (dC, dI) classes (kX k) U ∧ va_D (fun _ => True) (wX a k (nI wn) (nI mn) (nI nn) fk fa sl ks ct sm le gr))) (va_Qi (fun (r9 : Int32) (u9 : Nat) => r9 = nI u9) (fun (u9 : Nat) (t9 : State) => ∃ (σ1 : Nat → Nat) (sl1 : Nat → Int32) (ct1 sm1 le1 gr1 : Nat → Int64), rgI wn mn nn σ ks ct sm le gr nn u9 σ1 sl1 ct1 sm1 le1 gr1 ∧ va_P (dC, dI) classes (wX a k (nI wn) (nI mn) (nI nn) fk fa sl1 ks ct1 sm1 le1 gr1) t9.heap ∧ va_K (dC, dI) classes (kX k) t9 ∧ va_D (va_A (wX a k (nI wn) (nI mn) (nI nn) fk fa sl ks ct sm le gr) sz) (wX a k (nI wn) (nI mn) (nI nn) fk fa sl1 ks ct1 sm1 le1 gr1)) (va_A (wX a k (nI wn) (nI mn) (nI nn) fk fa sl ks ct sm le gr) sz)) 0 0 (va_A (wX a k (nI wn) (nI mn) (nI nn) fk fa sl ks ct sm le gr) sz) := by
  refine Met.ofW (cc := bX_regroup) (maxL := 6) (ret := (some .int)) (by decide) rfl ?_
  intro p e s m args below meth c s₁ B hml hv
  obtain ⟨rfl, hsz, hP, hK, hD0⟩ := hv
  have hx := B.exec
  have hb := B.bytes
  have hr := B.returns
  have hta : ∀ w ∈ wAll, w.before ([.ref (a 0)] : List Value).toArray s = true := fun w h => atoms_spec (ws := (Cond.code yX_regroup bX_regroup 6 (some .int) :: wAll)) B.pre w (List.mem_cons_of_mem _ h)
  have hown : s.vm.findClass "GroupRows" = some m.cls := findClass_of_methodNamed B.named
  have hlocks := B.notSynchronized
  subst hsz
  have hD := hD0.self (sz := s.heap.size)
  generalize hAe : va_A (wX a k (nI wn) (nI mn) (nI nn) fk fa sl ks ct sm le gr) s.heap.size = A at hD ⊢
  have hA : ∀ q : Nat, s.heap.size ≤ q → A q := fun q h => by rw [← hAe]; exact Or.inr h
  have hS : va_S A s.heap s.heap [] := va_S.rf
  have hP : va_P (dC, dI) classes (wX a k (nI wn) (nI mn) (nI nn) fk fa sl ks ct sm le gr) s.heap := hP
  have hl := lv_entry ([.ref (a 0)]) (n := 6) (Nat.le_of_ble_eq_true rfl)
  rw [lg_entry_eq]
  generalize (lg_sl ([.ref (a 0)]) ++ List.replicate (6 - (lg_sl ([.ref (a 0)])).length) Slot.unset).toArray = ls at hl ⊢
  have hl : lv_has ls 6 [(0, .ref (a 0))] := hl
  refine lv_iconst (v := 0) hx hb dX_regroup_0 (by decide) ?_
  refine gi_as (y := nI 0) (nI_0.symm) ?_
  refine lv_istore_n (lv' := [(1, .int (nI 0)), (0, .ref (a 0))]) hx hb dX_regroup_1 rfl hl (by decide) rfl (fun ls hl => ?_)
  refine lv_iconst (v := 0) hx hb dX_regroup_2 (by decide) ?_
  refine gi_as (y := nI 0) (nI_0.symm) ?_
  refine lv_istore_n (lv' := [(2, .int (nI 0)), (1, .int (nI 0)), (0, .ref (a 0))]) hx hb dX_regroup_3 rfl hl (by decide) rfl (fun ls hl => ?_)
  have loop : ∀ (kk pp kp : Nat) (σ1 : Nat → Nat) (sl1 : Nat → Int32) (ct1 sm1 le1 gr1 : Nat → Int64), pp + kk = nn → rgI wn mn nn σ ks ct sm le gr pp kp σ1 sl1 ct1 sm1 le1 gr1 → ∀ (H : Heap) (locs : List Loc), va_P (dC, dI) classes (wX a k (nI wn) (nI mn) (nI nn) fk fa sl1 ks ct1 sm1 le1 gr1) H → va_D A (wX a k (nI wn) (nI mn) (nI nn) fk fa sl1 ks ct1 sm1 le1 gr1) → va_S A s.heap H locs → ∀ (ls : Array Slot), lv_has ls 6 [(2, .int (nI pp)), (1, .int (nI kp)), (0, .ref (a 0))] → W p l e (headSpec (Cond.code yX_regroup bX_regroup 6 (some .int) :: wAll) { frames := 3, cells := 0, slots := 0, locals := 128 }).room s m ([.ref (a 0)] : List Value).toArray below meth c H locs 0 0 (MQ below (va_Qi (fun (r9 : Int32) (u9 : Nat) => r9 = nI u9) (fun (u9 : Nat) (t9 : State) => ∃ (σ1 : Nat → Nat) (sl1 : Nat → Int32) (ct1 sm1 le1 gr1 : Nat → Int64), rgI wn mn nn σ ks ct sm le gr nn u9 σ1 sl1 ct1 sm1 le1 gr1 ∧ va_P (dC, dI) classes (wX a k (nI wn) (nI mn) (nI nn) fk fa sl1 ks ct1 sm1 le1 gr1) t9.heap ∧ va_K (dC, dI) classes (kX k) t9 ∧ va_D A (wX a k (nI wn) (nI mn) (nI nn) fk fa sl1 ks ct1 sm1 le1 gr1)) A) ([.ref (a 0)] : List Value).toArray s 0 0 A) (F0 m 4 ls []) := by
    intro kk
    induction kk with
    | zero =>
      intro pp kp σ1 sl1 ct1 sm1 le1 gr1 hpp hI H locs hP hD hS ls hl
      obtain ⟨⟨b1, b2, b3, b4⟩, hσ1, hq1, -, hs1, -⟩ := id hI
      refine lv_iload_n hx hb dX_regroup_4 rfl (lv_at hl 0 rfl) ?_
      refine lv_aload_n hx hb dX_regroup_5 rfl (lv_at hl 2 rfl) ?_
      refine va_get (D := (dC, dI)) (ci := 0) (v := .int (nI nn)) (C := "GroupRows") (T := FX) (N := 11) hx hb hta inX hown hK hP 0 rfl rfl 2 (by decide) (hta _ w21) (fun _ h9 => h9) rfl dX_regroup_6 ?_
      refine lv_icmp_ge (tgt := 98) hx hb dX_regroup_9 (by decide) (fun h1 => ?_) (fun h1 => ?_)
      · skip
        have hj : nn = pp := by omega
        subst hj
        refine lv_iload_n hx hb dX_regroup_98 rfl (lv_at hl 1 rfl) ?_
        exact W.iret (v := (nI kp)) hx hb hr (fun t9 ht9 hW9 => ⟨⟨(nI kp), kp, rfl, rfl, ⟨σ1, sl1, ct1, sm1, le1, gr1, hI, by rw [ht9]; exact hP, va_K.moved hW9.alike hK, hD⟩⟩, hS.F ht9⟩) hS.2.2 dX_regroup_99
      · skip
        exact absurd (nI_le (by omega) (by omega)) h1
    | succ kk ih =>
      intro pp kp σ1 sl1 ct1 sm1 le1 gr1 hpp hI H locs hP hD hS ls hl
      obtain ⟨⟨b1, b2, b3, b4⟩, hσ1, hq1, -, hs1, -⟩ := id hI
      refine lv_iload_n hx hb dX_regroup_4 rfl (lv_at hl 0 rfl) ?_
      refine lv_aload_n hx hb dX_regroup_5 rfl (lv_at hl 2 rfl) ?_
      refine va_get (D := (dC, dI)) (ci := 0) (v := .int (nI nn)) (C := "GroupRows") (T := FX) (N := 11) hx hb hta inX hown hK hP 0 rfl rfl 2 (by decide) (hta _ w21) (fun _ h9 => h9) rfl dX_regroup_6 ?_
      refine lv_icmp_ge (tgt := 98) hx hb dX_regroup_9 (by decide) (fun h1 => ?_) (fun h1 => ?_)
      · skip
        exact absurd h1 (nI_ge (a := pp) (by omega) (by omega))
      · skip
        have hpq : σ1 pp = σ pp := hq1 pp (Nat.le_refl _) (by omega)
        have hsp : sl1 pp = nI (σ pp) := by rw [← hpq]; exact hσ1.1 pp (by omega)
        have hσp : σ pp < 1000 := by rw [← hpq]; exact hσ1.2.1 pp (by omega)
        obtain ⟨ps, hlow⟩ := isLow_ex (fun i => ks (8 * σ pp + i)) hs1
        have hps := hlow.1
        refine lv_aload_n hx hb dX_regroup_12 rfl (lv_at hl 2 rfl) ?_
        refine va_get (D := (dC, dI)) (ci := 0) (v := .ref (a 3)) (C := "GroupRows") (T := FX) (N := 11) hx hb hta inX hown hK hP 0 rfl rfl 5 (by decide) (hta _ w24) (fun _ h9 => h9) rfl dX_regroup_13 ?_
        refine lv_iload_n hx hb dX_regroup_16 rfl (lv_at hl 0 rfl) ?_
        refine gi_iald hx hb hK hP 3 2 rfl rfl (k := pp) (by omega) (by decide) dX_regroup_17 ?_
        refine gi_as (y := nI (σ pp)) (hsp) ?_
        refine lv_istore_n (lv' := [(3, .int (nI (σ pp))), (2, .int (nI pp)), (1, .int (nI kp)), (0, .ref (a 0))]) hx hb dX_regroup_18 rfl hl (by decide) rfl (fun ls hl => ?_)
        refine lv_iload_n hx hb dX_regroup_19 rfl (lv_at hl 0 rfl) ?_
        refine lv_bipush (v := 8) hx hb dX_regroup_20 (by decide) ?_
        refine lv_imul hx hb dX_regroup_22 ?_
        refine gi_as (y := nI (8 * (σ pp))) (gi_mul8 _) ?_
        refine lv_istore (lv' := [(4, .int (nI (8 * (σ pp)))), (3, .int (nI (σ pp))), (2, .int (nI pp)), (1, .int (nI kp)), (0, .ref (a 0))]) hx hb dX_regroup_23 hl (by decide) rfl (fun ls hl => ?_)
        refine lv_aload_n hx hb dX_regroup_25 rfl (lv_at hl 4 rfl) ?_
        refine lv_aload_n hx hb dX_regroup_26 rfl (lv_at hl 4 rfl) ?_
        refine va_get (D := (dC, dI)) (ci := 0) (v := .ref (a 4)) (C := "GroupRows") (T := FX) (N := 11) hx hb hta inX hown hK hP 0 rfl rfl 6 (by decide) (hta _ w25) (fun _ h9 => h9) rfl dX_regroup_27 ?_
        refine lv_iload hx hb dX_regroup_30 (lv_at hl 0 rfl) ?_
        refine lv_iload_n hx hb dX_regroup_32 rfl (lv_at hl 3 rfl) ?_
        refine gi_callR (v := .int (nI ps)) (W.runV (As := [.ref (a 4), .int (nI (8 * (σ pp))), .int (nI kp)]) (rest := []) ⟨hx, hb, hml, hown, hta⟩ (c_lowerPlaceK l dC dI a k wn (nI mn) (nI nn) fk fa sl1 ks ct1 sm1 le1 gr1 σ1 (8 * σ pp) kp ps hwn hσ1 (by omega) (by omega) hlow) (cwV 3 hta (gV w63 w65 sX_lowerPlace w1 w66) rfl rfl rfl (by decide +kernel) ⟨Nat.le_of_ble_eq_true rfl, Nat.le_of_ble_eq_true rfl⟩) ⟨gb_R, va_recv hK hP (ci := 0) (q0 := 0) rfl rfl, fun U hU hW => ⟨rfl, by rw [hU]; exact hP, va_K.moved hW.alike hK⟩⟩ rfl rfl hl.1 rfl (lv_room (Nat.le_of_ble_eq_true rfl)) dX_regroup_33 ⟨Nat.le_of_ble_eq_true rfl, Nat.le_of_ble_eq_true rfl⟩) ?_
        refine lv_istore (lv' := [(5, .int (nI ps)), (4, .int (nI (8 * (σ pp)))), (3, .int (nI (σ pp))), (2, .int (nI pp)), (1, .int (nI kp)), (0, .ref (a 0))]) hx hb dX_regroup_36 hl (by decide) rfl (fun ls hl => ?_)
        refine lv_aload_n hx hb dX_regroup_38 rfl (lv_at hl 5 rfl) ?_
        refine lv_iload hx hb dX_regroup_39 (lv_at hl 0 rfl) ?_
        refine lv_aload_n hx hb dX_regroup_41 rfl (lv_at hl 5 rfl) ?_
        refine va_get (D := (dC, dI)) (ci := 0) (v := .ref (a 4)) (C := "GroupRows") (T := FX) (N := 11) hx hb hta inX hown hK hP 0 rfl rfl 6 (by decide) (hta _ w25) (fun _ h9 => h9) rfl dX_regroup_42 ?_
        refine lv_iload hx hb dX_regroup_45 (lv_at hl 1 rfl) ?_
        refine lv_iload_n hx hb dX_regroup_47 rfl (lv_at hl 4 rfl) ?_
        refine gi_callR (v := .int (if ps < kp ∧ lx (fun i => ks (8 * σ1 ps + i)) (fun i => ks (8 * σ pp + i)) wn 0 = 0 then 1 else 0)) (W.runV (As := [.int (nI ps), .ref (a 4), .int (nI (8 * (σ pp))), .int (nI kp)]) (rest := []) ⟨hx, hb, hml, hown, hta⟩ (c_isKeyAtK l dC dI a k wn (nI mn) (nI nn) fk fa sl1 ks ct1 sm1 le1 gr1 σ1 ps (8 * σ pp) kp hwn hσ1 (by omega) (by omega) (by omega)) (cwV 4 hta (gV w74 w76 sX_isKeyAt w1 w77) rfl rfl rfl (by decide +kernel) ⟨Nat.le_of_ble_eq_true rfl, Nat.le_of_ble_eq_true rfl⟩) ⟨gb_R, va_recv hK hP (ci := 0) (q0 := 0) rfl rfl, fun U hU hW => ⟨rfl, by rw [hU]; exact hP, va_K.moved hW.alike hK⟩⟩ rfl rfl hl.1 rfl (lv_room (Nat.le_of_ble_eq_true rfl)) dX_regroup_48 ⟨Nat.le_of_ble_eq_true rfl, Nat.le_of_ble_eq_true rfl⟩) ?_
        refine lv_if_eq (tgt := 69) hx hb dX_regroup_51 (by decide) (fun h2 => ?_) (fun h2 => ?_)
        · skip
          have hc : ps < kp → ¬ keq wn (fun i => ks (8 * σ1 ps + i)) (fun i => ks (8 * σ pp + i)) := fun q1 q2 => by
            rw [if_pos ⟨q1, lx_eq.mpr q2⟩] at h2; exact absurd h2 (by decide)
          refine lv_aload_n hx hb dX_regroup_69 rfl (lv_at hl 5 rfl) ?_
          refine va_get (D := (dC, dI)) (ci := 0) (v := .ref (a 3)) (C := "GroupRows") (T := FX) (N := 11) hx hb hta inX hown hK hP 0 rfl rfl 5 (by decide) (hta _ w24) (fun _ h9 => h9) rfl dX_regroup_70 ?_
          refine lv_iload_n hx hb dX_regroup_73 rfl (lv_at hl 3 rfl) ?_
          refine lv_aload_n hx hb dX_regroup_74 rfl (lv_at hl 5 rfl) ?_
          refine va_get (D := (dC, dI)) (ci := 0) (v := .ref (a 3)) (C := "GroupRows") (T := FX) (N := 11) hx hb hta inX hown hK hP 0 rfl rfl 5 (by decide) (hta _ w24) (fun _ h9 => h9) rfl dX_regroup_75 ?_
          refine lv_iload_n hx hb dX_regroup_78 rfl (lv_at hl 4 rfl) ?_
          refine gi_iald hx hb hK hP 3 2 rfl rfl (k := kp) (by omega) (by decide) dX_regroup_79 ?_
          refine gi_iast hx hb hK hP hD hS 3 2 rfl rfl (k := pp) (by omega) (by decide) dX_regroup_80 (fun H locs hP hD hS => ?_)
          have hP : va_P (dC, dI) classes (wX a k (nI wn) (nI mn) (nI nn) fk fa (upd sl1 pp (sl1 kp)) ks ct1 sm1 le1 gr1) H := hP
          have hD : va_D A (wX a k (nI wn) (nI mn) (nI nn) fk fa (upd sl1 pp (sl1 kp)) ks ct1 sm1 le1 gr1) := hD
          refine lv_aload_n hx hb dX_regroup_81 rfl (lv_at hl 5 rfl) ?_
          refine lv_iload_n hx hb dX_regroup_82 rfl (lv_at hl 2 rfl) ?_
          refine lv_iload hx hb dX_regroup_83 (lv_at hl 0 rfl) ?_
          refine lv_iload_n hx hb dX_regroup_85 rfl (lv_at hl 4 rfl) ?_
          have hPc := hP
          have hDc := hD
          have hKc := hK
          have hFc := va_free (wc := (wX a k (nI wn) (nI mn) (nI nn) fk fa (upd sl1 pp (sl1 kp)) ks ct1 sm1 le1 gr1)) hD hS hA [0, 1, 2, 3, 4, 5, 6, 7, 8] rfl
          refine va_callv (va_runV (As := [.int (nI (σ pp)), .int (nI ps), .int (nI kp)]) (rest := []) ⟨hx, hb, hml, hown, hta⟩ (c_insertSlot l dC dI a k (nI wn) (nI mn) (nI nn) fk fa (upd sl1 pp (sl1 kp)) ks ct1 sm1 le1 gr1 (nI (σ pp)) ps kp hps (by omega) H.size) (cwV 3 hta (gV w200 w202 sX_insertSlot w1 w203) rfl rfl rfl (by decide +kernel) ⟨Nat.le_of_ble_eq_true rfl, Nat.le_of_ble_eq_true rfl⟩) ⟨gb_W, va_recv hKc hPc (ci := 0) (q0 := 0) rfl rfl, fun U hU hW => ⟨rfl, by rw [hU], by rw [hU]; exact hPc, va_K.moved hW.alike hKc, hDc.weaken (fun _ _ _ _ => trivial)⟩⟩ rfl rfl hl.1 rfl (lv_room (Nat.le_of_ble_eq_true rfl)) dX_regroup_86 ⟨Nat.le_of_ble_eq_true rfl, Nat.le_of_ble_eq_true rfl⟩) hS (fun q _ h => hFc q h) hFc (fun u t H1 locs ht hvm hw hB hz1 hk1 hS => ?_)
          obtain ⟨hP1, hK1, hD1⟩ := hB
          rw [ht] at hP1
          obtain ⟨hP, hD⟩ := va_join (wr := []) (w1 := (wX a k (nI wn) (nI mn) (nI nn) fk fa (insL (upd sl1 pp (sl1 kp)) ps kp (nI (σ pp))) ks ct1 sm1 le1 gr1)) hP hD [0, 1, 2, 3, 4, 5, 6, 7, 8] [] rfl rfl (by decide) (by decide) hk1 hFc hP1 hD1
          generalize H1 = H at hP hS ⊢
          have hP : va_P (dC, dI) classes (wX a k (nI wn) (nI mn) (nI nn) fk fa (insL (upd sl1 pp (sl1 kp)) ps kp (nI (σ pp))) ks ct1 sm1 le1 gr1) H := hP
          have hD : va_D A (wX a k (nI wn) (nI mn) (nI nn) fk fa (insL (upd sl1 pp (sl1 kp)) ps kp (nI (σ pp))) ks ct1 sm1 le1 gr1) := hD
          refine lv_iinc (v := (nI (kp + 1))) (lv' := [(1, .int (nI (kp + 1))), (5, .int (nI ps)), (4, .int (nI (8 * (σ pp)))), (3, .int (nI (σ pp))), (2, .int (nI pp)), (0, .ref (a 0))]) hx hb dX_regroup_89 hl (k := 4) rfl (nI_1 _) (by decide) rfl (fun ls hl => ?_)
          refine lv_iinc (v := (nI (pp + 1))) (lv' := [(2, .int (nI (pp + 1))), (1, .int (nI (kp + 1))), (5, .int (nI ps)), (4, .int (nI (8 * (σ pp)))), (3, .int (nI (σ pp))), (0, .ref (a 0))]) hx hb dX_regroup_92 hl (k := 4) rfl (nI_1 _) (by decide) rfl (fun ls hl => ?_)
          refine lv_goto (tgt := 4) hx hb dX_regroup_95 (by decide) ?_
          have hl := lv_sub hl [0, 1, 5] rfl
          have hl : lv_has ls 6 [(2, .int (nI (pp + 1))), (1, .int (nI (kp + 1))), (0, .ref (a 0))] := hl
          exact ih (pp + 1) (kp + 1) _ _ _ _ _ _ (by omega) (rg_new hI (by omega) hlow hc) H locs hP hD hS ls hl
        · skip
          have hc : ps < kp ∧ lx (fun i => ks (8 * σ1 ps + i)) (fun i => ks (8 * σ pp + i)) wn 0 = 0 := by
            by_cases q : ps < kp ∧ lx (fun i => ks (8 * σ1 ps + i)) (fun i => ks (8 * σ pp + i)) wn 0 = 0
            · exact q
            · rw [if_neg q] at h2; exact absurd rfl h2
          have hne : σ1 ps ≠ σ pp := fun q => by
            rw [← hpq] at q
            have := hσ1.2.2 ps pp (by omega) (by omega) q
            omega
          refine lv_aload_n hx hb dX_regroup_54 rfl (lv_at hl 5 rfl) ?_
          refine lv_aload_n hx hb dX_regroup_55 rfl (lv_at hl 5 rfl) ?_
          refine va_get (D := (dC, dI)) (ci := 0) (v := .ref (a 3)) (C := "GroupRows") (T := FX) (N := 11) hx hb hta inX hown hK hP 0 rfl rfl 5 (by decide) (hta _ w24) (fun _ h9 => h9) rfl dX_regroup_56 ?_
          refine lv_iload hx hb dX_regroup_59 (lv_at hl 0 rfl) ?_
          refine gi_iald hx hb hK hP 3 2 rfl rfl (k := ps) (by omega) (by decide) dX_regroup_61 ?_
          refine gi_as (y := nI (σ1 ps)) (hσ1.1 ps (by omega)) ?_
          refine lv_iload_n hx hb dX_regroup_62 rfl (lv_at hl 2 rfl) ?_
          have hPc := hP
          have hDc := hD
          have hKc := hK
          have hFc := va_free (wc := (wX a k (nI wn) (nI mn) (nI nn) fk fa sl1 ks ct1 sm1 le1 gr1)) hD hS hA [0, 1, 2, 3, 4, 5, 6, 7, 8] rfl
          refine va_callv (va_runV (As := [.int (nI (σ1 ps)), .int (nI (σ pp))]) (rest := []) ⟨hx, hb, hml, hown, hta⟩ (c_joinRow l dC dI a k mn (nI wn) (nI nn) fk fa sl1 ks ct1 sm1 le1 gr1 (σ1 ps) (σ pp) (hσ1.2.1 ps (by omega)) hσp hne hmn H.size) (cwV 2 hta (gV w241 w243 sX_joinRow w1 w244) rfl rfl rfl (by decide +kernel) ⟨Nat.le_of_ble_eq_true rfl, Nat.le_of_ble_eq_true rfl⟩) ⟨gb_W, va_recv hKc hPc (ci := 0) (q0 := 0) rfl rfl, fun U hU hW => ⟨rfl, by rw [hU], by rw [hU]; exact hPc, va_K.moved hW.alike hKc, hDc.weaken (fun _ _ _ _ => trivial)⟩⟩ rfl rfl hl.1 rfl (lv_room (Nat.le_of_ble_eq_true rfl)) dX_regroup_63 ⟨Nat.le_of_ble_eq_true rfl, Nat.le_of_ble_eq_true rfl⟩) hS (fun q _ h => hFc q h) hFc (fun u t H1 locs ht hvm hw hB hz1 hk1 hS => ?_)
          obtain ⟨hP1, hK1, hD1⟩ := hB
          rw [ht] at hP1
          obtain ⟨hP, hD⟩ := va_join (wr := []) (w1 := (wX a k (nI wn) (nI mn) (nI nn) fk fa sl1 ks (vp_updL ct1 (σ1 ps) (ct1 (σ1 ps) + ct1 (σ pp))) (upTo (fun m x => x + sm1 (8 * (σ pp) + m)) (8 * (σ1 ps)) sm1 mn) (upTo (fun m x => if le1 (8 * (σ pp) + m) < x then le1 (8 * (σ pp) + m) else x) (8 * (σ1 ps)) le1 mn) (upTo (fun m x => if gr1 (8 * (σ pp) + m) < x then x else gr1 (8 * (σ pp) + m)) (8 * (σ1 ps)) gr1 mn))) hP hD [0, 1, 2, 3, 4, 5, 6, 7, 8] [] rfl rfl (by decide) (by decide) hk1 hFc hP1 hD1
          generalize H1 = H at hP hS ⊢
          have hP : va_P (dC, dI) classes (wX a k (nI wn) (nI mn) (nI nn) fk fa sl1 ks (vp_updL ct1 (σ1 ps) (ct1 (σ1 ps) + ct1 (σ pp))) (upTo (fun m x => x + sm1 (8 * (σ pp) + m)) (8 * (σ1 ps)) sm1 mn) (upTo (fun m x => if le1 (8 * (σ pp) + m) < x then le1 (8 * (σ pp) + m) else x) (8 * (σ1 ps)) le1 mn) (upTo (fun m x => if gr1 (8 * (σ pp) + m) < x then x else gr1 (8 * (σ pp) + m)) (8 * (σ1 ps)) gr1 mn)) H := hP
          have hD : va_D A (wX a k (nI wn) (nI mn) (nI nn) fk fa sl1 ks (vp_updL ct1 (σ1 ps) (ct1 (σ1 ps) + ct1 (σ pp))) (upTo (fun m x => x + sm1 (8 * (σ pp) + m)) (8 * (σ1 ps)) sm1 mn) (upTo (fun m x => if le1 (8 * (σ pp) + m) < x then le1 (8 * (σ pp) + m) else x) (8 * (σ1 ps)) le1 mn) (upTo (fun m x => if gr1 (8 * (σ pp) + m) < x then x else gr1 (8 * (σ pp) + m)) (8 * (σ1 ps)) gr1 mn)) := hD
          refine lv_goto (tgt := 92) hx hb dX_regroup_66 (by decide) ?_
          refine lv_iinc (v := (nI (pp + 1))) (lv' := [(2, .int (nI (pp + 1))), (5, .int (nI ps)), (4, .int (nI (8 * (σ pp)))), (3, .int (nI (σ pp))), (1, .int (nI kp)), (0, .ref (a 0))]) hx hb dX_regroup_92 hl (k := 3) rfl (nI_1 _) (by decide) rfl (fun ls hl => ?_)
          refine lv_goto (tgt := 4) hx hb dX_regroup_95 (by decide) ?_
          have hl := lv_sub hl [0, 4, 5] rfl
          have hl : lv_has ls 6 [(2, .int (nI (pp + 1))), (1, .int (nI kp)), (0, .ref (a 0))] := hl
          exact ih (pp + 1) kp _ _ _ _ _ _ (by omega) (rg_hit hI (by omega) hc.1 (lx_eq.mp hc.2)) H locs hP hD hS ls hl
  have hl := lv_sub hl [0, 1, 2] rfl
  have hl : lv_has ls 6 [(2, .int (nI 0)), (1, .int (nI 0)), (0, .ref (a 0))] := hl
  exact loop nn 0 0 σ sl ct sm le gr (by omega) (rg_0 hσ hnn hmn) s.heap [] hP hD hS ls hl
