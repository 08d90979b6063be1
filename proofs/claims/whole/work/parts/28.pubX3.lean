set_option maxHeartbeats 4000000 in
set_option maxRecDepth 100000 in
/-- roll -/
theorem c_roll (l : Launch) (hnt : l.stackTraces = false) (dC : Nat → ClassId) (dI : Nat → Nat → Nat) (a : Nat → Nat) (k : Nat → ClassId) (wn mn : Nat) (fk : Nat → Int32) (fa : Nat → Int64) (T : TB) (σ : Nat → Nat) (sl ks : Nat → Int32) (ct sm le gr : Nat → Int64) (hσ : perm σ sl) (hrep : repT σ wn mn T ks ct sm le gr) (i : Int32) (sz : Nat) : vx_Met l yX_roll (Cond.code yX_roll bX_roll 3 (some .int) :: wAll) { frames := 6, cells := 1, slots := 6, locals := 160 } (va_Pc [.ref (a 0), .int i] (fun U => U.heap.size = sz ∧ va_P (dC, dI) classes (wX a k (nI wn) (nI mn) (nI T.1) fk fa sl ks ct sm le gr) U.heap ∧ va_K (dC, dI) classes (kX k) U ∧ va_D (fun _ => True) (wX a k (nI wn) (nI mn) (nI T.1) fk fa sl ks ct sm le gr) ∧ thrE (va_A (wX a k (nI wn) (nI mn) (nI T.1) fk fa sl ks ct sm le gr) sz) U U.heap)) (va_Qi (fun (r9 : Int32) (u9 : TB) => (0 ≤ i ∧ i < nI wn) ∧ r9 = nI u9.1 ∧ rollR wn mn i.toNatClampNeg T u9) (fun (u9 : TB) (t9 : State) => atX dC dI (va_A (wX a k (nI wn) (nI mn) (nI T.1) fk fa sl ks ct sm le gr) sz) a k wn mn fk fa u9 t9) (va_A (wX a k (nI wn) (nI mn) (nI T.1) fk fa sl ks ct sm le gr) sz)) (vx_X (fun _ : Unit => ¬ (0 ≤ i ∧ i < nI wn)) (fun (E9 : String) (_ : Unit) (t9 : State) => E9 = "java/lang/IllegalArgumentException" ∧ va_P (dC, dI) classes (wX a k (nI wn) (nI mn) (nI T.1) fk fa sl ks ct sm le gr) t9.heap ∧ va_K (dC, dI) classes (kX k) t9 ∧ va_D (va_A (wX a k (nI wn) (nI mn) (nI T.1) fk fa sl ks ct sm le gr) sz) (wX a k (nI wn) (nI mn) (nI T.1) fk fa sl ks ct sm le gr)) (va_A (wX a k (nI wn) (nI mn) (nI T.1) fk fa sl ks ct sm le gr) sz)) 1 6 (va_A (wX a k (nI wn) (nI mn) (nI T.1) fk fa sl ks ct sm le gr) sz) := by
  refine vx_ofW (cc := bX_roll) (maxL := 3) (ret := (some .int)) (by decide) rfl ?_
  intro p e s m args below meth c s₁ B hml hno hv
  obtain ⟨rfl, hsz, hP, hK, hD0, hT⟩ := hv
  have hx := B.exec
  have hb := B.bytes
  have hr := B.returns
  have hta : ∀ w ∈ wAll, w.before ([.ref (a 0), .int i] : List Value).toArray s = true := fun w h => atoms_spec (ws := (Cond.code yX_roll bX_roll 3 (some .int) :: wAll)) B.pre w (List.mem_cons_of_mem _ h)
  have hown : s.vm.findClass "GroupRows" = some m.cls := findClass_of_methodNamed B.named
  have hlocks := B.notSynchronized
  subst hsz
  have hD := hD0.self (sz := s.heap.size)
  generalize hAe : va_A (wX a k (nI wn) (nI mn) (nI T.1) fk fa sl ks ct sm le gr) s.heap.size = A at hD hT ⊢
  have hA : ∀ q : Nat, s.heap.size ≤ q → A q := fun q h => by rw [← hAe]; exact Or.inr h
  have hS : va_S A s.heap s.heap [] := va_S.rf
  have hP : va_P (dC, dI) classes (wX a k (nI wn) (nI mn) (nI T.1) fk fa sl ks ct sm le gr) s.heap := hP
  have hl := lv_entry ([.ref (a 0), .int i]) (n := 3) (Nat.le_of_ble_eq_true rfl)
  rw [lg_entry_eq]
  generalize (lg_sl ([.ref (a 0), .int i]) ++ List.replicate (3 - (lg_sl ([.ref (a 0), .int i])).length) Slot.unset).toArray = ls at hl ⊢
  have hl : lv_has ls 3 [(0, .ref (a 0)), (1, .int i)] := hl
  obtain ⟨⟨hwn, hmn1, hmn, hn⟩, hk9, hc9, hv9, hs9⟩ := id hrep
  refine lv_aload_n hx hb dX_roll_0 rfl (lv_at hl 0 rfl) ?_
  refine lv_iload_n hx hb dX_roll_1 rfl (lv_at hl 1 rfl) ?_
  refine gi_callR (v := .int (if 0 ≤ i ∧ i < nI wn then 1 else 0)) (W.runV (As := [.int i]) (rest := []) ⟨hx, hb, hml, hown, hta⟩ (c_isPart l dC dI a k (nI wn) (nI mn) (nI T.1) fk fa sl ks ct sm le gr i) (cwV 1 hta (gV w166 w168 sX_isPart w1 w169) rfl rfl rfl (by decide +kernel) ⟨Nat.le_of_ble_eq_true rfl, Nat.le_of_ble_eq_true rfl⟩) ⟨gb_R, va_recv hK hP (ci := 0) (q0 := 0) rfl rfl, fun U hU hW => ⟨rfl, by rw [hU]; exact hP, va_K.moved hW.alike hK⟩⟩ rfl rfl hl.1 rfl (lv_room (Nat.le_of_ble_eq_true rfl)) dX_roll_2 ⟨Nat.le_of_ble_eq_true rfl, Nat.le_of_ble_eq_true rfl⟩) ?_
  refine lv_if_ne (tgt := 18) hx hb dX_roll_5 (by decide) (fun h1 => ?_) (fun h1 => ?_)
  rotate_left
  · skip
    have hn9 : ¬ (0 ≤ i ∧ i < nI wn) := fun q => by rw [if_pos q] at h1; exact absurd h1 (by decide)
    exact gx_throw (is := 67) (text := "there is no such part") hx hb hnt hown hta hT hS (hl.1.trans hml.symm) (by decide) dX_roll_8 dX_roll_11 dX_roll_12 dX_roll_14 dX_roll_17 hno (Nat.le_of_ble_eq_true rfl) (Nat.le_of_ble_eq_true rfl) (Nat.le_of_ble_eq_true rfl) (Nat.le_of_ble_eq_true rfl) hlocks (fun t9 hv9 hz9 hk9 => ⟨(), hn9, ⟨rfl, gx_P hP hk9, va_K.moved hv9 hK, hD⟩, gx_F hS hz9 hk9⟩) hS.2.2 (Nat.le_of_ble_eq_true rfl) (Nat.le_of_ble_eq_true rfl)
  · skip
    have hL : 0 ≤ i ∧ i < nI wn := by
      by_cases q : 0 ≤ i ∧ i < nI wn
      · exact q
      · rw [if_neg q] at h1; exact absurd rfl h1
    obtain ⟨j, hj, ej, cj⟩ := in_nI (by omega) hL
    subst ej
    refine lv_iconst (v := 0) hx hb dX_roll_18 (by decide) ?_
    refine gi_as (y := nI 0) (nI_0.symm) ?_
    refine lv_istore_n (lv' := [(2, .int (nI 0)), (0, .ref (a 0)), (1, .int (nI j))]) hx hb dX_roll_19 rfl hl (by decide) rfl (fun ls hl => ?_)
    have loop : ∀ (kk pp : Nat), pp + kk = T.1 → ∀ (H : Heap) (locs : List Loc), va_P (dC, dI) classes (wX a k (nI wn) (nI mn) (nI T.1) fk fa sl (rolA σ j ks pp) ct sm le gr) H → va_D A (wX a k (nI wn) (nI mn) (nI T.1) fk fa sl (rolA σ j ks pp) ct sm le gr) → va_S A s.heap H locs → ∀ (ls : Array Slot), lv_has ls 3 [(2, .int (nI pp)), (1, .int (nI j)), (0, .ref (a 0))] → W p l e (headSpec (Cond.code yX_roll bX_roll 3 (some .int) :: wAll) { frames := 6, cells := 1, slots := 6, locals := 160 }).room s m ([.ref (a 0), .int (nI j)] : List Value).toArray below meth c H locs 0 0 (vx_MQ below (va_Qi (fun (r9 : Int32) (u9 : TB) => (0 ≤ nI j ∧ nI j < nI wn) ∧ r9 = nI u9.1 ∧ rollR wn mn (nI j).toNatClampNeg T u9) (fun (u9 : TB) (t9 : State) => atX dC dI A a k wn mn fk fa u9 t9) A) (vx_X (fun _ : Unit => ¬ (0 ≤ nI j ∧ nI j < nI wn)) (fun (E9 : String) (_ : Unit) (t9 : State) => E9 = "java/lang/IllegalArgumentException" ∧ va_P (dC, dI) classes (wX a k (nI wn) (nI mn) (nI T.1) fk fa sl ks ct sm le gr) t9.heap ∧ va_K (dC, dI) classes (kX k) t9 ∧ va_D A (wX a k (nI wn) (nI mn) (nI T.1) fk fa sl ks ct sm le gr)) A) ([.ref (a 0), .int (nI j)] : List Value).toArray s 1 6 A) (F0 m 20 ls []) := by
      intro kk
      induction kk with
      | zero =>
        intro pp hpp H locs hP hD hS ls hl
        refine lv_iload_n hx hb dX_roll_20 rfl (lv_at hl 0 rfl) ?_
        refine lv_aload_n hx hb dX_roll_21 rfl (lv_at hl 2 rfl) ?_
        refine va_get (D := (dC, dI)) (ci := 0) (v := .int (nI T.1)) (C := "GroupRows") (T := FX) (N := 11) hx hb hta inX hown hK hP 0 rfl rfl 2 (by decide) (hta _ w21) (fun _ h9 => h9) rfl dX_roll_22 ?_
        refine lv_icmp_ge (tgt := 52) hx hb dX_roll_25 (by decide) (fun h1 => ?_) (fun h1 => ?_)
        · skip
          have hj9 : T.1 = pp := by omega
          subst hj9
          refine lv_aload_n hx hb dX_roll_52 rfl (lv_at hl 2 rfl) ?_
          refine lv_aload_n hx hb dX_roll_53 rfl (lv_at hl 2 rfl) ?_
          have hPc := hP
          have hDc := hD
          have hKc := hK
          have hFc := va_free (wc := (wX a k (nI wn) (nI mn) (nI T.1) fk fa sl (rolA σ j ks T.1) ct sm le gr)) hD hS hA [0, 1, 2, 3, 4, 5, 6, 7, 8] rfl
          refine va_calli (va_runV (As := []) (rest := [.ref (a 0)]) ⟨hx, hb, hml, hown, hta⟩ (c_regroup l dC dI a k wn mn T.1 fk fa σ sl (rolA σ j ks T.1) ct sm le gr hσ hwn hmn hn H.size) (cwV 0 hta (gV w237 w239 sX_regroup w1 w240) rfl rfl rfl (by decide +kernel) ⟨Nat.le_of_ble_eq_true rfl, Nat.le_of_ble_eq_true rfl⟩) ⟨gb_W, va_recv hKc hPc (ci := 0) (q0 := 0) rfl rfl, fun U hU hW => ⟨rfl, by rw [hU], by rw [hU]; exact hPc, va_K.moved hW.alike hKc, hDc.weaken (fun _ _ _ _ => trivial)⟩⟩ rfl rfl hl.1 rfl (lv_room (Nat.le_of_ble_eq_true rfl)) dX_roll_54 ⟨Nat.le_of_ble_eq_true rfl, Nat.le_of_ble_eq_true rfl⟩) hS (fun q _ h => hFc q h) hFc (fun r_9 u t H1 locs ht hvm hw hB hz1 hk1 hS => ?_)
          obtain ⟨σ1, sl1, ct1, sm1, le1, gr1, hI, hP1, hK1, hD1⟩ := hB
          rw [ht] at hP1
          obtain ⟨hP, hD⟩ := va_join (wr := []) (w1 := (wX a k (nI wn) (nI mn) (nI T.1) fk fa sl1 (rolA σ j ks T.1) ct1 sm1 le1 gr1)) hP hD [0, 1, 2, 3, 4, 5, 6, 7, 8] [] rfl rfl (by decide) (by decide) hk1 hFc hP1 hD1
          generalize H1 = H at hP hS ⊢
          have hP : va_P (dC, dI) classes (wX a k (nI wn) (nI mn) (nI T.1) fk fa sl1 (rolA σ j ks T.1) ct1 sm1 le1 gr1) H := hP
          have hD : va_D A (wX a k (nI wn) (nI mn) (nI T.1) fk fa sl1 (rolA σ j ks T.1) ct1 sm1 le1 gr1) := hD
          rw [hw]
          refine va_put (D := (dC, dI)) (ci := 0) (v := .int (nI u)) (ty := .int) (C := "GroupRows") (T := FX) (N := 11) hx hb hta inX tX tXok nX hown hK hP hD hS 0 rfl rfl 2 (by decide) (hta _ w21) (fun _ h9 => h9) rfl (by decide +kernel) rfl rfl (Nat.le_of_ble_eq_true rfl) dX_roll_57 (fun H locs hP hD hS => ?_)
          have hP : va_P (dC, dI) classes (wX a k (nI wn) (nI mn) (nI u) fk fa sl1 (rolA σ j ks T.1) ct1 sm1 le1 gr1) H := hP
          have hD : va_D A (wX a k (nI wn) (nI mn) (nI u) fk fa sl1 (rolA σ j ks T.1) ct1 sm1 le1 gr1) := hD
          refine lv_aload_n hx hb dX_roll_60 rfl (lv_at hl 2 rfl) ?_
          refine va_get (D := (dC, dI)) (ci := 0) (v := .int (nI u)) (C := "GroupRows") (T := FX) (N := 11) hx hb hta inX hown hK hP 0 rfl rfl 2 (by decide) (hta _ w21) (fun _ h9 => h9) rfl dX_roll_61 ?_
          obtain ⟨hroll, hσ9, hr9⟩ := rg_roll hj hσ.2.2 hrep hI
          refine vx_ret ?_
          refine W.widen (k := 1) (n := 6) (Nat.zero_le _) (Nat.zero_le _) ?_
          exact W.iret (v := (nI u)) hx hb hr (fun t9 ht9 hW9 => ⟨⟨(nI u), rgT u σ1 (rolA σ j ks T.1) ct1 sm1 le1 gr1, rfl, ⟨hL, rfl, by rw [cj]; exact hroll⟩, ⟨σ1, sl1, rolA σ j ks T.1, ct1, sm1, le1, gr1, ⟨hσ9, hr9⟩, by rw [ht9]; exact hP, va_K.moved hW9.alike hK, hD⟩⟩, hS.F ht9⟩) hS.2.2 dX_roll_64
        · skip
          exact absurd (nI_le (by omega) (by omega)) h1
      | succ kk ih =>
        intro pp hpp H locs hP hD hS ls hl
        refine lv_iload_n hx hb dX_roll_20 rfl (lv_at hl 0 rfl) ?_
        refine lv_aload_n hx hb dX_roll_21 rfl (lv_at hl 2 rfl) ?_
        refine va_get (D := (dC, dI)) (ci := 0) (v := .int (nI T.1)) (C := "GroupRows") (T := FX) (N := 11) hx hb hta inX hown hK hP 0 rfl rfl 2 (by decide) (hta _ w21) (fun _ h9 => h9) rfl dX_roll_22 ?_
        refine lv_icmp_ge (tgt := 52) hx hb dX_roll_25 (by decide) (fun h1 => ?_) (fun h1 => ?_)
        · skip
          exact absurd h1 (nI_ge (a := pp) (by omega) (by omega))
        · skip
          have hσp := hσ.2.1 pp (by omega)
          refine lv_aload_n hx hb dX_roll_28 rfl (lv_at hl 2 rfl) ?_
          refine va_get (D := (dC, dI)) (ci := 0) (v := .ref (a 4)) (C := "GroupRows") (T := FX) (N := 11) hx hb hta inX hown hK hP 0 rfl rfl 6 (by decide) (hta _ w25) (fun _ h9 => h9) rfl dX_roll_29 ?_
          refine lv_aload_n hx hb dX_roll_32 rfl (lv_at hl 2 rfl) ?_
          refine va_get (D := (dC, dI)) (ci := 0) (v := .ref (a 3)) (C := "GroupRows") (T := FX) (N := 11) hx hb hta inX hown hK hP 0 rfl rfl 5 (by decide) (hta _ w24) (fun _ h9 => h9) rfl dX_roll_33 ?_
          refine lv_iload_n hx hb dX_roll_36 rfl (lv_at hl 0 rfl) ?_
          refine gi_iald hx hb hK hP 3 2 rfl rfl (k := pp) (by omega) (by decide) dX_roll_37 ?_
          refine gi_as (y := nI (σ pp)) (hσ.1 pp (by omega)) ?_
          refine lv_bipush (v := 8) hx hb dX_roll_38 (by decide) ?_
          refine lv_imul hx hb dX_roll_40 ?_
          refine gi_as (y := nI (8 * (σ pp))) (gi_mul8 _) ?_
          refine lv_iload_n hx hb dX_roll_41 rfl (lv_at hl 1 rfl) ?_
          refine lv_iadd hx hb dX_roll_42 ?_
          refine gi_as (y := nI ((8 * (σ pp)) + j)) (nI_add _ _) ?_
          refine lv_ldc (v := 2147483647) hx hb hown (hta _ w236) dX_roll_43 ?_
          refine gi_iast hx hb hK hP hD hS 4 3 rfl rfl (k := ((8 * (σ pp)) + j)) (by omega) (by decide) dX_roll_45 (fun H locs hP hD hS => ?_)
          have hP : va_P (dC, dI) classes (wX a k (nI wn) (nI mn) (nI T.1) fk fa sl (upd (rolA σ j ks pp) ((8 * (σ pp)) + j) 2147483647) ct sm le gr) H := hP
          have hD : va_D A (wX a k (nI wn) (nI mn) (nI T.1) fk fa sl (upd (rolA σ j ks pp) ((8 * (σ pp)) + j) 2147483647) ct sm le gr) := hD
          refine lv_iinc (v := (nI (pp + 1))) (lv' := [(2, .int (nI (pp + 1))), (1, .int (nI j)), (0, .ref (a 0))]) hx hb dX_roll_46 hl (k := 0) rfl (nI_1 _) (by decide) rfl (fun ls hl => ?_)
          refine lv_goto (tgt := 20) hx hb dX_roll_49 (by decide) ?_
          have hl := lv_sub hl [0, 1, 2] rfl
          have hl : lv_has ls 3 [(2, .int (nI (pp + 1))), (1, .int (nI j)), (0, .ref (a 0))] := hl
          exact ih (pp + 1) (by omega) H locs hP hD hS ls hl
    have hl := lv_sub hl [0, 2, 1] rfl
    have hl : lv_has ls 3 [(2, .int (nI 0)), (1, .int (nI j)), (0, .ref (a 0))] := hl
    exact loop T.1 0 (by omega) s.heap [] hP hD hS ls hl
set_option maxHeartbeats 4000000 in
set_option maxRecDepth 100000 in
/-- spread -/
theorem c_spread (l : Launch) (hnt : l.stackTraces = false) (dC : Nat → ClassId) (dI : Nat → Nat → Nat) (a : Nat → Nat) (k : Nat → ClassId) (wn mn : Nat) (fk : Nat → Int32) (fa : Nat → Int64) (T : TB) (σ : Nat → Nat) (sl ks : Nat → Int32) (ct sm le gr : Nat → Int64) (hσ : perm σ sl) (hrep : repT σ wn mn T ks ct sm le gr) (nn i st : Int32) (sz : Nat) : vx_Met l yX_spread (Cond.code yX_spread bX_spread 5 (some .int) :: wAll) { frames := 6, cells := 1, slots := 6, locals := 160 } (va_Pc [.ref (a 0), .int nn, .int i, .int st] (fun U => U.heap.size = sz ∧ va_P (dC, dI) classes (wX a k (nI wn) (nI mn) (nI T.1) fk fa sl ks ct sm le gr) U.heap ∧ va_K (dC, dI) classes (kX k) U ∧ va_D (fun _ => True) (wX a k (nI wn) (nI mn) (nI T.1) fk fa sl ks ct sm le gr) ∧ thrE (va_A (wX a k (nI wn) (nI mn) (nI T.1) fk fa sl ks ct sm le gr) sz) U U.heap)) (va_Qi (fun (r9 : Int32) (_ : Unit) => ((0 ≤ i ∧ i < nI wn) ∧ 1 ≤ nn ∧ nn ≤ 5000) ∧ r9 = (nI (sprT wn mn i.toNatClampNeg st nn.toNatClampNeg 0 fk fa T).1)) (fun (_ : Unit) (t9 : State) => atX dC dI (va_A (wX a k (nI wn) (nI mn) (nI T.1) fk fa sl ks ct sm le gr) sz) a k wn mn (sprT wn mn i.toNatClampNeg st nn.toNatClampNeg 0 fk fa T).2.1 (sprT wn mn i.toNatClampNeg st nn.toNatClampNeg 0 fk fa T).2.2.1 (sprT wn mn i.toNatClampNeg st nn.toNatClampNeg 0 fk fa T).2.2.2 t9) (va_A (wX a k (nI wn) (nI mn) (nI T.1) fk fa sl ks ct sm le gr) sz)) (vx_X (fun _ : Unit => ¬ ((0 ≤ i ∧ i < nI wn) ∧ 1 ≤ nn ∧ nn ≤ 5000)) (fun (E9 : String) (_ : Unit) (t9 : State) => E9 = "java/lang/IllegalArgumentException" ∧ va_P (dC, dI) classes (wX a k (nI wn) (nI mn) (nI T.1) fk fa sl ks ct sm le gr) t9.heap ∧ va_K (dC, dI) classes (kX k) t9 ∧ va_D (va_A (wX a k (nI wn) (nI mn) (nI T.1) fk fa sl ks ct sm le gr) sz) (wX a k (nI wn) (nI mn) (nI T.1) fk fa sl ks ct sm le gr)) (va_A (wX a k (nI wn) (nI mn) (nI T.1) fk fa sl ks ct sm le gr) sz)) 1 6 (va_A (wX a k (nI wn) (nI mn) (nI T.1) fk fa sl ks ct sm le gr) sz) := by
  refine vx_ofW (cc := bX_spread) (maxL := 5) (ret := (some .int)) (by decide) rfl ?_
  intro p e s m args below meth c s₁ B hml hno hv
  obtain ⟨rfl, hsz, hP, hK, hD0, hT⟩ := hv
  have hx := B.exec
  have hb := B.bytes
  have hr := B.returns
  have hta : ∀ w ∈ wAll, w.before ([.ref (a 0), .int nn, .int i, .int st] : List Value).toArray s = true := fun w h => atoms_spec (ws := (Cond.code yX_spread bX_spread 5 (some .int) :: wAll)) B.pre w (List.mem_cons_of_mem _ h)
  have hown : s.vm.findClass "GroupRows" = some m.cls := findClass_of_methodNamed B.named
  have hlocks := B.notSynchronized
  subst hsz
  have hD := hD0.self (sz := s.heap.size)
  generalize hAe : va_A (wX a k (nI wn) (nI mn) (nI T.1) fk fa sl ks ct sm le gr) s.heap.size = A at hD hT ⊢
  have hA : ∀ q : Nat, s.heap.size ≤ q → A q := fun q h => by rw [← hAe]; exact Or.inr h
  have hS : va_S A s.heap s.heap [] := va_S.rf
  have hP : va_P (dC, dI) classes (wX a k (nI wn) (nI mn) (nI T.1) fk fa sl ks ct sm le gr) s.heap := hP
  have hl := lv_entry ([.ref (a 0), .int nn, .int i, .int st]) (n := 5) (Nat.le_of_ble_eq_true rfl)
  rw [lg_entry_eq]
  generalize (lg_sl ([.ref (a 0), .int nn, .int i, .int st]) ++ List.replicate (5 - (lg_sl ([.ref (a 0), .int nn, .int i, .int st])).length) Slot.unset).toArray = ls at hl ⊢
  have hl : lv_has ls 5 [(0, .ref (a 0)), (1, .int nn), (2, .int i), (3, .int st)] := hl
  obtain ⟨⟨hwn, hmn1, hmn, hn⟩, hk9, hc9, hv9, hs9⟩ := id hrep
  refine lv_aload_n hx hb dX_spread_0 rfl (lv_at hl 0 rfl) ?_
  refine lv_iload_n hx hb dX_spread_1 rfl (lv_at hl 2 rfl) ?_
  refine gi_callR (v := .int (if 0 ≤ i ∧ i < nI wn then 1 else 0)) (W.runV (As := [.int i]) (rest := []) ⟨hx, hb, hml, hown, hta⟩ (c_isPart l dC dI a k (nI wn) (nI mn) (nI T.1) fk fa sl ks ct sm le gr i) (cwV 1 hta (gV w166 w168 sX_isPart w1 w169) rfl rfl rfl (by decide +kernel) ⟨Nat.le_of_ble_eq_true rfl, Nat.le_of_ble_eq_true rfl⟩) ⟨gb_R, va_recv hK hP (ci := 0) (q0 := 0) rfl rfl, fun U hU hW => ⟨rfl, by rw [hU]; exact hP, va_K.moved hW.alike hK⟩⟩ rfl rfl hl.1 rfl (lv_room (Nat.le_of_ble_eq_true rfl)) dX_spread_2 ⟨Nat.le_of_ble_eq_true rfl, Nat.le_of_ble_eq_true rfl⟩) ?_
  refine lv_if_ne (tgt := 18) hx hb dX_spread_5 (by decide) (fun h1 => ?_) (fun h1 => ?_)
  rotate_left
  · skip
    have hn9 : ¬ (0 ≤ i ∧ i < nI wn) := fun q => by rw [if_pos q] at h1; exact absurd h1 (by decide)
    exact gx_throw (is := 67) (text := "there is no such part") hx hb hnt hown hta hT hS (hl.1.trans hml.symm) (by decide) dX_spread_8 dX_spread_11 dX_spread_12 dX_spread_14 dX_spread_17 hno (Nat.le_of_ble_eq_true rfl) (Nat.le_of_ble_eq_true rfl) (Nat.le_of_ble_eq_true rfl) (Nat.le_of_ble_eq_true rfl) hlocks (fun t9 hv9 hz9 hk9 => ⟨(), fun q => hn9 q.1, ⟨rfl, gx_P hP hk9, va_K.moved hv9 hK, hD⟩, gx_F hS hz9 hk9⟩) hS.2.2 (Nat.le_of_ble_eq_true rfl) (Nat.le_of_ble_eq_true rfl)
  · skip
    have hL : 0 ≤ i ∧ i < nI wn := by
      by_cases q : 0 ≤ i ∧ i < nI wn
      · exact q
      · rw [if_neg q] at h1; exact absurd rfl h1
    refine lv_iload_n hx hb dX_spread_18 rfl (lv_at hl 1 rfl) ?_
    refine lv_iconst (v := 1) hx hb dX_spread_19 (by decide) ?_
    refine lv_icmp_lt (tgt := 30) hx hb dX_spread_20 (by decide) (fun h2 => ?_) (fun h2 => ?_)
    · skip
      exact gx_throw (is := 80) (text := "n is not 1 .. 5000") hx hb hnt hown hta hT hS (hl.1.trans hml.symm) (by decide) dX_spread_30 dX_spread_33 dX_spread_34 dX_spread_36 dX_spread_39 hno (Nat.le_of_ble_eq_true rfl) (Nat.le_of_ble_eq_true rfl) (Nat.le_of_ble_eq_true rfl) (Nat.le_of_ble_eq_true rfl) hlocks (fun t9 hv9 hz9 hk9 => ⟨(), fun q => absurd q.2.1 (Int32.not_le.mpr h2), ⟨rfl, gx_P hP hk9, va_K.moved hv9 hK, hD⟩, gx_F hS hz9 hk9⟩) hS.2.2 (Nat.le_of_ble_eq_true rfl) (Nat.le_of_ble_eq_true rfl)
    · skip
      refine lv_iload_n hx hb dX_spread_23 rfl (lv_at hl 1 rfl) ?_
      refine lv_sipush (v := 5000) hx hb dX_spread_24 (by decide) ?_
      refine lv_icmp_le (tgt := 40) hx hb dX_spread_27 (by decide) (fun h3 => ?_) (fun h3 => ?_)
      · skip
        have hL2 : (0 ≤ i ∧ i < nI wn) ∧ 1 ≤ nn ∧ nn ≤ 5000 := ⟨hL, Int32.not_lt.mp h2, h3⟩
        obtain ⟨j, hj, ej, cj⟩ := in_nI (by omega) hL
        obtain ⟨N, hN, eN, cN⟩ := in_le (n := 5000) (by decide) ⟨i32_0le1 hL2.2.1, hL2.2.2⟩
        subst ej
        subst eN
        refine lv_iconst (v := 0) hx hb dX_spread_40 (by decide) ?_
        refine gi_as (y := nI 0) (nI_0.symm) ?_
        refine lv_istore (lv' := [(4, .int (nI 0)), (0, .ref (a 0)), (1, .int (nI N)), (2, .int (nI j)), (3, .int st)]) hx hb dX_spread_41 hl (by decide) rfl (fun ls hl => ?_)
        have loop : ∀ (kk cm : Nat) (fk1 : Nat → Int32) (fa1 : Nat → Int64) (T1 : TB) (σ1 : Nat → Nat) (sl1 ks1 : Nat → Int32) (ct1 sm1 le1 gr1 : Nat → Int64), cm + kk = N → perm σ1 sl1 → repT σ1 wn mn T1 ks1 ct1 sm1 le1 gr1 → sprT wn mn j st N 0 fk fa T = sprT wn mn j st kk cm fk1 fa1 T1 → ∀ (H : Heap) (locs : List Loc), va_P (dC, dI) classes (wX a k (nI wn) (nI mn) (nI T1.1) fk1 fa1 sl1 ks1 ct1 sm1 le1 gr1) H → va_D A (wX a k (nI wn) (nI mn) (nI T1.1) fk1 fa1 sl1 ks1 ct1 sm1 le1 gr1) → va_S A s.heap H locs → ∀ (ls : Array Slot), lv_has ls 5 [(4, .int (nI cm)), (0, .ref (a 0)), (1, .int (nI N)), (2, .int (nI j)), (3, .int st)] → W p l e (headSpec (Cond.code yX_spread bX_spread 5 (some .int) :: wAll) { frames := 6, cells := 1, slots := 6, locals := 160 }).room s m ([.ref (a 0), .int (nI N), .int (nI j), .int st] : List Value).toArray below meth c H locs 0 0 (vx_MQ below (va_Qi (fun (r9 : Int32) (_ : Unit) => ((0 ≤ nI j ∧ nI j < nI wn) ∧ 1 ≤ nI N ∧ nI N ≤ 5000) ∧ r9 = (nI (sprT wn mn (nI j).toNatClampNeg st (nI N).toNatClampNeg 0 fk fa T).1)) (fun (_ : Unit) (t9 : State) => atX dC dI A a k wn mn (sprT wn mn (nI j).toNatClampNeg st (nI N).toNatClampNeg 0 fk fa T).2.1 (sprT wn mn (nI j).toNatClampNeg st (nI N).toNatClampNeg 0 fk fa T).2.2.1 (sprT wn mn (nI j).toNatClampNeg st (nI N).toNatClampNeg 0 fk fa T).2.2.2 t9) A) (vx_X (fun _ : Unit => ¬ ((0 ≤ nI j ∧ nI j < nI wn) ∧ 1 ≤ nI N ∧ nI N ≤ 5000)) (fun (E9 : String) (_ : Unit) (t9 : State) => E9 = "java/lang/IllegalArgumentException" ∧ va_P (dC, dI) classes (wX a k (nI wn) (nI mn) (nI T.1) fk fa sl ks ct sm le gr) t9.heap ∧ va_K (dC, dI) classes (kX k) t9 ∧ va_D A (wX a k (nI wn) (nI mn) (nI T.1) fk fa sl ks ct sm le gr)) A) ([.ref (a 0), .int (nI N), .int (nI j), .int st] : List Value).toArray s 1 6 A) (F0 m 43 ls []) := by
          intro kk
          induction kk with
          | zero =>
            intro cm fk1 fa1 T1 σ1 sl1 ks1 ct1 sm1 le1 gr1 hcm hσ1 hr1 hsp H locs hP hD hS ls hl
            refine lv_iload hx hb dX_spread_43 (lv_at hl 0 rfl) ?_
            refine lv_iload_n hx hb dX_spread_45 rfl (lv_at hl 2 rfl) ?_
            refine lv_icmp_ge (tgt := 77) hx hb dX_spread_46 (by decide) (fun h4 => ?_) (fun h4 => ?_)
            · skip
              refine lv_iload_n hx hb dX_spread_77 rfl (lv_at hl 2 rfl) ?_
              have e9 : sprT wn mn j st N 0 fk fa T = (cm, fk1, fa1, T1) := hsp
              refine vx_ret ?_
              refine W.widen (k := 1) (n := 6) (Nat.zero_le _) (Nat.zero_le _) ?_
              exact W.iret (v := (nI N)) hx hb hr (fun t9 ht9 hW9 => ⟨⟨(nI N), (), rfl, ⟨hL2, by rw [cj, cN, e9]; show nI N = nI cm; rw [show N = cm by omega]⟩, by rw [cj, cN, e9]; exact ⟨σ1, sl1, ks1, ct1, sm1, le1, gr1, ⟨hσ1, hr1⟩, by rw [ht9]; exact hP, va_K.moved hW9.alike hK, hD⟩⟩, hS.F ht9⟩) hS.2.2 dX_spread_78
            · skip
              exact absurd (nI_le (by omega) (by omega)) h4
          | succ kk ih =>
            intro cm fk1 fa1 T1 σ1 sl1 ks1 ct1 sm1 le1 gr1 hcm hσ1 hr1 hsp H locs hP hD hS ls hl
            refine lv_iload hx hb dX_spread_43 (lv_at hl 0 rfl) ?_
            refine lv_iload_n hx hb dX_spread_45 rfl (lv_at hl 2 rfl) ?_
            refine lv_icmp_ge (tgt := 77) hx hb dX_spread_46 (by decide) (fun h4 => ?_) (fun h4 => ?_)
            · skip
              exact absurd h4 (nI_ge (a := cm) (by omega) (by omega))
            · skip
              have mid : ∀ (fk2 : Nat → Int32) (fa2 : Nat → Int64), fk2 = (if cm = 0 then fk1 else stK fk1 j st) → fa2 = (if cm = 0 then fa1 else stA fa1 mn st) → ∀ (H : Heap) (locs : List Loc), va_P (dC, dI) classes (wX a k (nI wn) (nI mn) (nI T1.1) fk2 fa2 sl1 ks1 ct1 sm1 le1 gr1) H → va_D A (wX a k (nI wn) (nI mn) (nI T1.1) fk2 fa2 sl1 ks1 ct1 sm1 le1 gr1) → va_S A s.heap H locs → ∀ (ls : Array Slot), lv_has ls 5 [(4, .int (nI cm)), (0, .ref (a 0)), (1, .int (nI N)), (2, .int (nI j)), (3, .int st)] → W p l e (headSpec (Cond.code yX_spread bX_spread 5 (some .int) :: wAll) { frames := 6, cells := 1, slots := 6, locals := 160 }).room s m ([.ref (a 0), .int (nI N), .int (nI j), .int st] : List Value).toArray below meth c H locs 0 0 (vx_MQ below (va_Qi (fun (r9 : Int32) (_ : Unit) => ((0 ≤ nI j ∧ nI j < nI wn) ∧ 1 ≤ nI N ∧ nI N ≤ 5000) ∧ r9 = (nI (sprT wn mn (nI j).toNatClampNeg st (nI N).toNatClampNeg 0 fk fa T).1)) (fun (_ : Unit) (t9 : State) => atX dC dI A a k wn mn (sprT wn mn (nI j).toNatClampNeg st (nI N).toNatClampNeg 0 fk fa T).2.1 (sprT wn mn (nI j).toNatClampNeg st (nI N).toNatClampNeg 0 fk fa T).2.2.1 (sprT wn mn (nI j).toNatClampNeg st (nI N).toNatClampNeg 0 fk fa T).2.2.2 t9) A) (vx_X (fun _ : Unit => ¬ ((0 ≤ nI j ∧ nI j < nI wn) ∧ 1 ≤ nI N ∧ nI N ≤ 5000)) (fun (E9 : String) (_ : Unit) (t9 : State) => E9 = "java/lang/IllegalArgumentException" ∧ va_P (dC, dI) classes (wX a k (nI wn) (nI mn) (nI T.1) fk fa sl ks ct sm le gr) t9.heap ∧ va_K (dC, dI) classes (kX k) t9 ∧ va_D A (wX a k (nI wn) (nI mn) (nI T.1) fk fa sl ks ct sm le gr)) A) ([.ref (a 0), .int (nI N), .int (nI j), .int st] : List Value).toArray s 1 6 A) (F0 m 60 ls []) := by
                intro fk2 fa2 ek ea H locs hP hD hS ls hl
                refine lv_aload_n hx hb dX_spread_60 rfl (lv_at hl 1 rfl) ?_
                refine lv_iconst (v := 1) hx hb dX_spread_61 (by decide) ?_
                have hr1s := hr1
                have hPc := hP
                have hDc := hD
                have hKc := hK
                have hFc := va_free (wc := (wX a k (nI wn) (nI mn) (nI T1.1) fk2 fa2 sl1 ks1 ct1 sm1 le1 gr1)) hD hS hA [0, 1, 2, 3, 4, 5, 6, 7, 8] rfl
                refine va_calli (va_runV (As := [.int 1]) (rest := []) ⟨hx, hb, hml, hown, hta⟩ (c_takeFact l dC dI a k wn mn fk2 fa2 T1 σ1 sl1 ks1 ct1 sm1 le1 gr1 hσ1 hr1 1 H.size) (cwV 1 hta (gV w192 w194 sX_takeFact w1 w195) rfl rfl rfl (by decide +kernel) ⟨Nat.le_of_ble_eq_true rfl, Nat.le_of_ble_eq_true rfl⟩) ⟨gb_W, va_recv hKc hPc (ci := 0) (q0 := 0) rfl rfl, fun U hU hW => ⟨rfl, by rw [hU], by rw [hU]; exact hPc, va_K.moved hW.alike hKc, hDc.weaken (fun _ _ _ _ => trivial)⟩⟩ rfl rfl hl.1 rfl (lv_room (Nat.le_of_ble_eq_true rfl)) dX_spread_62 ⟨Nat.le_of_ble_eq_true rfl, Nat.le_of_ble_eq_true rfl⟩) hS (fun q _ h => hFc q h) hFc (fun r_9 u t H1 locs ht hvm hw hB hz1 hk1 hS => ?_)
                rw [i64_one] at hw hB
                obtain ⟨σ2, sl2, ks2, ct2, sm2, le2, gr2, ⟨hσ2, hr2⟩, hP1, hK1, hD1⟩ := hB
                rw [ht] at hP1
                obtain ⟨hP, hD⟩ := va_join (wr := []) (w1 := (wX a k (nI wn) (nI mn) (nI (takeT wn fk2 fa2 1 T1).1.1) fk2 fa2 sl2 ks2 ct2 sm2 le2 gr2)) hP hD [0, 1, 2, 3, 4, 5, 6, 7, 8] [] rfl rfl (by decide) (by decide) hk1 hFc hP1 hD1
                generalize H1 = H at hP hS ⊢
                have hP : va_P (dC, dI) classes (wX a k (nI wn) (nI mn) (nI (takeT wn fk2 fa2 1 T1).1.1) fk2 fa2 sl2 ks2 ct2 sm2 le2 gr2) H := hP
                have hD : va_D A (wX a k (nI wn) (nI mn) (nI (takeT wn fk2 fa2 1 T1).1.1) fk2 fa2 sl2 ks2 ct2 sm2 le2 gr2) := hD
                refine lv_if_ne (tgt := 71) hx hb dX_spread_65 (by decide) (fun h6 => ?_) (fun h6 => ?_)
                · skip
                  rw [hw] at h6
                  have hb9 : (takeT wn fk2 fa2 1 T1).2 = true := by
                    by_cases q : (takeT wn fk2 fa2 1 T1).2 = true
                    · exact q
                    · rw [if_neg q] at h6; exact absurd rfl h6
                  refine lv_iinc (v := (nI (cm + 1))) (lv' := [(4, .int (nI (cm + 1))), (0, .ref (a 0)), (1, .int (nI N)), (2, .int (nI j)), (3, .int st)]) hx hb dX_spread_71 hl (k := 0) rfl (nI_1 _) (by decide) rfl (fun ls hl => ?_)
                  refine lv_goto (tgt := 43) hx hb dX_spread_74 (by decide) ?_
                  have hl := lv_sub hl [0, 1, 2, 3, 4] rfl
                  have hl : lv_has ls 5 [(4, .int (nI (cm + 1))), (0, .ref (a 0)), (1, .int (nI N)), (2, .int (nI j)), (3, .int st)] := hl
                  exact ih (cm + 1) fk2 fa2 (takeT wn fk2 fa2 1 T1).1 σ2 sl2 ks2 ct2 sm2 le2 gr2 (by omega) hσ2 hr2 (hsp.trans (sprT_yes ek ea hb9)) H locs hP hD hS ls hl
                · skip
                  rw [hw] at h6
                  have hb9 : ¬ (takeT wn fk2 fa2 1 T1).2 = true := fun q => by rw [if_pos q] at h6; exact absurd h6 (by decide)
                  have e8 := takeT_no hb9
                  rw [e8] at hr2 hP hD
                  have e9 : sprT wn mn j st N 0 fk fa T = (cm, fk2, fa2, T1) := hsp.trans (sprT_no ek ea hb9)
                  refine lv_iload hx hb dX_spread_68 (lv_at hl 0 rfl) ?_
                  refine vx_ret ?_
                  refine W.widen (k := 1) (n := 6) (Nat.zero_le _) (Nat.zero_le _) ?_
                  exact W.iret (v := (nI cm)) hx hb hr (fun t9 ht9 hW9 => ⟨⟨(nI cm), (), rfl, ⟨hL2, by rw [cj, cN, e9]⟩, by rw [cj, cN, e9]; exact ⟨σ2, sl2, ks2, ct2, sm2, le2, gr2, ⟨hσ2, hr2⟩, by rw [ht9]; exact hP, va_K.moved hW9.alike hK, hD⟩⟩, hS.F ht9⟩) hS.2.2 dX_spread_70
              refine lv_iload hx hb dX_spread_49 (lv_at hl 0 rfl) ?_
              refine lv_if_le (tgt := 60) hx hb dX_spread_51 (by decide) (fun h5 => ?_) (fun h5 => ?_)
              · skip
                have h5 : cm = 0 := by
                  rcases Nat.eq_zero_or_pos cm with q | q
                  · exact q
                  · exact absurd h5 (nI_nle q (by omega))
                exact mid fk1 fa1 (if_pos h5).symm (if_pos h5).symm H locs hP hD hS ls hl
              · skip
                have h5 : ¬ cm = 0 := fun q => h5 (by rw [q, nI_0]; decide)
                refine lv_aload_n hx hb dX_spread_54 rfl (lv_at hl 1 rfl) ?_
                refine lv_iload_n hx hb dX_spread_55 rfl (lv_at hl 3 rfl) ?_
                refine lv_iload_n hx hb dX_spread_56 rfl (lv_at hl 4 rfl) ?_
                have hPc := hP
                have hDc := hD
                have hKc := hK
                have hFc := va_free (wc := (wX a k (nI wn) (nI mn) (nI T1.1) fk1 fa1 sl1 ks1 ct1 sm1 le1 gr1)) hD hS hA [0, 1, 2, 3, 4, 5, 6, 7, 8] rfl
                refine va_callv (va_runV (As := [.int (nI j), .int st]) (rest := []) ⟨hx, hb, hml, hown, hta⟩ (c_stepFact l dC dI a k mn (nI wn) (nI T1.1) fk1 fa1 sl1 ks1 ct1 sm1 le1 gr1 j st (by omega) hmn H.size) (cwV 2 hta (gV w225 w227 sX_stepFact w1 w228) rfl rfl rfl (by decide +kernel) ⟨Nat.le_of_ble_eq_true rfl, Nat.le_of_ble_eq_true rfl⟩) ⟨gb_W, va_recv hKc hPc (ci := 0) (q0 := 0) rfl rfl, fun U hU hW => ⟨rfl, by rw [hU], by rw [hU]; exact hPc, va_K.moved hW.alike hKc, hDc.weaken (fun _ _ _ _ => trivial)⟩⟩ rfl rfl hl.1 rfl (lv_room (Nat.le_of_ble_eq_true rfl)) dX_spread_57 ⟨Nat.le_of_ble_eq_true rfl, Nat.le_of_ble_eq_true rfl⟩) hS (fun q _ h => hFc q h) hFc (fun u t H1 locs ht hvm hw hB hz1 hk1 hS => ?_)
                obtain ⟨hP1, hK1, hD1⟩ := hB
                rw [ht] at hP1
                obtain ⟨hP, hD⟩ := va_join (wr := []) (w1 := (wX a k (nI wn) (nI mn) (nI T1.1) (upd fk1 j (fk1 j + st)) (upTo (fun _ x => x + st.toInt64) 0 fa1 mn) sl1 ks1 ct1 sm1 le1 gr1)) hP hD [0, 1, 2, 3, 4, 5, 6, 7, 8] [] rfl rfl (by decide) (by decide) hk1 hFc hP1 hD1
                generalize H1 = H at hP hS ⊢
                have hP : va_P (dC, dI) classes (wX a k (nI wn) (nI mn) (nI T1.1) (upd fk1 j (fk1 j + st)) (upTo (fun _ x => x + st.toInt64) 0 fa1 mn) sl1 ks1 ct1 sm1 le1 gr1) H := hP
                have hD : va_D A (wX a k (nI wn) (nI mn) (nI T1.1) (upd fk1 j (fk1 j + st)) (upTo (fun _ x => x + st.toInt64) 0 fa1 mn) sl1 ks1 ct1 sm1 le1 gr1) := hD
                exact mid _ _ (if_neg h5).symm ((upTo_stA fa1 mn st).trans (if_neg h5).symm) H locs hP hD hS ls hl
        have hl := lv_sub hl [0, 1, 2, 3, 4] rfl
        have hl : lv_has ls 5 [(4, .int (nI 0)), (0, .ref (a 0)), (1, .int (nI N)), (2, .int (nI j)), (3, .int st)] := hl
        exact loop N 0 fk fa T σ sl ks ct sm le gr (by omega) hσ hrep rfl s.heap [] hP hD hS ls hl
      · skip
        exact gx_throw (is := 80) (text := "n is not 1 .. 5000") hx hb hnt hown hta hT hS (hl.1.trans hml.symm) (by decide) dX_spread_30 dX_spread_33 dX_spread_34 dX_spread_36 dX_spread_39 hno (Nat.le_of_ble_eq_true rfl) (Nat.le_of_ble_eq_true rfl) (Nat.le_of_ble_eq_true rfl) (Nat.le_of_ble_eq_true rfl) hlocks (fun t9 hv9 hz9 hk9 => ⟨(), fun q => h3 q.2.2, ⟨rfl, gx_P hP hk9, va_K.moved hv9 hK, hD⟩, gx_F hS hz9 hk9⟩) hS.2.2 (Nat.le_of_ble_eq_true rfl) (Nat.le_of_ble_eq_true rfl)
