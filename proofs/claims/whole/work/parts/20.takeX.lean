set_option maxHeartbeats 4000000 in
set_option maxRecDepth 100000 in
/-- takeFact -/
theorem c_takeFact (l : Launch) (dC : Nat → ClassId) (dI : Nat → Nat → Nat) (a : Nat → Nat) (k : Nat → ClassId) (wn mn : Nat) (fk : Nat → Int32) (fa : Nat → Int64) (T : TB) (σ : Nat → Nat) (sl ks : Nat → Int32) (ct sm le gr : Nat → Int64) (hσ : perm σ sl) (hrep : repT σ wn mn T ks ct sm le gr) (nn : Int32) (sz : Nat)  : Met l yX_takeFact (Cond.code yX_takeFact bX_takeFact 3 (some .boolean) :: wAll) { frames := 3, cells := 0, slots := 0, locals := 128 } (va_Pc [.ref (a 0), .int nn] (fun U => U.heap.size = sz ∧ va_P (dC, dI) classes (wX a k (nI wn) (nI mn) (nI T.1) fk fa sl ks ct sm le gr) U.heap ∧ va_K (dC, dI) classes (kX k) U ∧ va_D (fun _ => True) (wX a k (nI wn) (nI mn) (nI T.1) fk fa sl ks ct sm le gr))) (va_Qi (fun (r9 : Int32) (_ : Unit) => r9 = (if (takeT wn fk fa nn.toInt64 T).2 = true then 1 else 0)) (fun (_ : Unit) (t9 : State) => atX dC dI (va_A (wX a k (nI wn) (nI mn) (nI T.1) fk fa sl ks ct sm le gr) sz) a k wn mn fk fa (takeT wn fk fa nn.toInt64 T).1 t9) (va_A (wX a k (nI wn) (nI mn) (nI T.1) fk fa sl ks ct sm le gr) sz)) 0 0 (va_A (wX a k (nI wn) (nI mn) (nI T.1) fk fa sl ks ct sm le gr) sz) := by
  refine Met.ofW (cc := bX_takeFact) (maxL := 3) (ret := (some .boolean)) (by decide) rfl ?_
  intro p e s m args below meth c s₁ B hml hv
  obtain ⟨rfl, hsz, hP, hK, hD0⟩ := hv
  have hx := B.exec
  have hb := B.bytes
  have hr := B.returns
  have hta : ∀ w ∈ wAll, w.before ([.ref (a 0), .int nn] : List Value).toArray s = true := fun w h => atoms_spec (ws := (Cond.code yX_takeFact bX_takeFact 3 (some .boolean) :: wAll)) B.pre w (List.mem_cons_of_mem _ h)
  have hown : s.vm.findClass "GroupRows" = some m.cls := findClass_of_methodNamed B.named
  have hlocks := B.notSynchronized
  subst hsz
  have hD := hD0.self (sz := s.heap.size)
  generalize hAe : va_A (wX a k (nI wn) (nI mn) (nI T.1) fk fa sl ks ct sm le gr) s.heap.size = A at hD ⊢
  have hA : ∀ q : Nat, s.heap.size ≤ q → A q := fun q h => by rw [← hAe]; exact Or.inr h
  have hS : va_S A s.heap s.heap [] := va_S.rf
  have hP : va_P (dC, dI) classes (wX a k (nI wn) (nI mn) (nI T.1) fk fa sl ks ct sm le gr) s.heap := hP
  have hl := lv_entry ([.ref (a 0), .int nn]) (n := 3) (Nat.le_of_ble_eq_true rfl)
  rw [lg_entry_eq]
  generalize (lg_sl ([.ref (a 0), .int nn]) ++ List.replicate (3 - (lg_sl ([.ref (a 0), .int nn])).length) Slot.unset).toArray = ls at hl ⊢
  have hl : lv_has ls 3 [(0, .ref (a 0)), (1, .int nn)] := hl
  obtain ⟨⟨hwn, hmn1, hmn, hn⟩, -⟩ := id hrep
  have hlow := rep_low (fk := fk) hrep
  have hlow2 := lowP_is (key := fk) hrep.2.2.2.2
  obtain ⟨ps, eps⟩ : ∃ ps, ps = lowP wn T.1 T.2.1 fk := ⟨_, rfl⟩
  rw [← eps] at hlow hlow2
  have hps := hlow.1
  refine lv_aload_n hx hb dX_takeFact_0 rfl (lv_at hl 0 rfl) ?_
  refine lv_aload_n hx hb dX_takeFact_1 rfl (lv_at hl 0 rfl) ?_
  refine va_get (D := (dC, dI)) (ci := 0) (v := .ref (a 1)) (C := "GroupRows") (T := FX) (N := 11) hx hb hta inX hown hK hP 0 rfl rfl 3 (by decide) (hta _ w22) (fun _ h9 => h9) rfl dX_takeFact_2 ?_
  refine lv_iconst (v := 0) hx hb dX_takeFact_5 (by decide) ?_
  refine gi_as (y := nI 0) (nI_0.symm) ?_
  refine lv_aload_n hx hb dX_takeFact_6 rfl (lv_at hl 0 rfl) ?_
  refine va_get (D := (dC, dI)) (ci := 0) (v := .int (nI T.1)) (C := "GroupRows") (T := FX) (N := 11) hx hb hta inX hown hK hP 0 rfl rfl 2 (by decide) (hta _ w21) (fun _ h9 => h9) rfl dX_takeFact_7 ?_
  refine gi_callR (v := .int (nI ps)) (W.runV (As := [.ref (a 1), .int (nI 0), .int (nI T.1)]) (rest := []) ⟨hx, hb, hml, hown, hta⟩ (c_lowerPlaceF l dC dI a k wn (nI mn) (nI T.1) fk fa sl ks ct sm le gr σ 0 T.1 ps hwn hσ (by omega) hn hlow) (cwV 3 hta (gV w63 w65 sX_lowerPlace w1 w66) rfl rfl rfl (by decide +kernel) ⟨Nat.le_of_ble_eq_true rfl, Nat.le_of_ble_eq_true rfl⟩) ⟨gb_R, va_recv hK hP (ci := 0) (q0 := 0) rfl rfl, fun U hU hW => ⟨rfl, by rw [hU]; exact hP, va_K.moved hW.alike hK⟩⟩ rfl rfl hl.1 rfl (lv_room (Nat.le_of_ble_eq_true rfl)) dX_takeFact_10 ⟨Nat.le_of_ble_eq_true rfl, Nat.le_of_ble_eq_true rfl⟩) ?_
  refine lv_istore_n (lv' := [(2, .int (nI ps)), (0, .ref (a 0)), (1, .int nn)]) hx hb dX_takeFact_13 rfl hl (by decide) rfl (fun ls hl => ?_)
  refine lv_aload_n hx hb dX_takeFact_14 rfl (lv_at hl 1 rfl) ?_
  refine lv_iload_n hx hb dX_takeFact_15 rfl (lv_at hl 0 rfl) ?_
  refine lv_aload_n hx hb dX_takeFact_16 rfl (lv_at hl 1 rfl) ?_
  refine va_get (D := (dC, dI)) (ci := 0) (v := .ref (a 1)) (C := "GroupRows") (T := FX) (N := 11) hx hb hta inX hown hK hP 0 rfl rfl 3 (by decide) (hta _ w22) (fun _ h9 => h9) rfl dX_takeFact_17 ?_
  refine lv_iconst (v := 0) hx hb dX_takeFact_20 (by decide) ?_
  refine gi_as (y := nI 0) (nI_0.symm) ?_
  refine lv_aload_n hx hb dX_takeFact_21 rfl (lv_at hl 1 rfl) ?_
  refine va_get (D := (dC, dI)) (ci := 0) (v := .int (nI T.1)) (C := "GroupRows") (T := FX) (N := 11) hx hb hta inX hown hK hP 0 rfl rfl 2 (by decide) (hta _ w21) (fun _ h9 => h9) rfl dX_takeFact_22 ?_
  refine gi_callR (v := .int (if ps < T.1 ∧ lx (fun i => ks (8 * σ ps + i)) (fun i => fk (0 + i)) wn 0 = 0 then 1 else 0)) (W.runV (As := [.int (nI ps), .ref (a 1), .int (nI 0), .int (nI T.1)]) (rest := []) ⟨hx, hb, hml, hown, hta⟩ (c_isKeyAtF l dC dI a k wn (nI mn) (nI T.1) fk fa sl ks ct sm le gr σ ps 0 T.1 hwn hσ (by omega) (by omega) hn) (cwV 4 hta (gV w74 w76 sX_isKeyAt w1 w77) rfl rfl rfl (by decide +kernel) ⟨Nat.le_of_ble_eq_true rfl, Nat.le_of_ble_eq_true rfl⟩) ⟨gb_R, va_recv hK hP (ci := 0) (q0 := 0) rfl rfl, fun U hU hW => ⟨rfl, by rw [hU]; exact hP, va_K.moved hW.alike hK⟩⟩ rfl rfl hl.1 rfl (lv_room (Nat.le_of_ble_eq_true rfl)) dX_takeFact_25 ⟨Nat.le_of_ble_eq_true rfl, Nat.le_of_ble_eq_true rfl⟩) ?_
  refine lv_if_ne (tgt := 48) hx hb dX_takeFact_28 (by decide) (fun h1 => ?_) (fun h1 => ?_)
  · skip
    have hc : ps < T.1 ∧ lx (fun i => ks (8 * σ ps + i)) (fun i => fk (0 + i)) wn 0 = 0 := by
      by_cases q : ps < T.1 ∧ lx (fun i => ks (8 * σ ps + i)) (fun i => fk (0 + i)) wn 0 = 0
      · exact q
      · rw [if_neg q] at h1; exact absurd rfl h1
    have hc2 : lowP wn T.1 T.2.1 fk < T.1 ∧ lx (T.2.1 (lowP wn T.1 T.2.1 fk)) fk wn 0 = 0 := by rw [← eps]; exact (rep_has hrep).mp hc
    refine lv_aload_n hx hb dX_takeFact_48 rfl (lv_at hl 1 rfl) ?_
    refine lv_aload_n hx hb dX_takeFact_49 rfl (lv_at hl 1 rfl) ?_
    refine va_get (D := (dC, dI)) (ci := 0) (v := .ref (a 3)) (C := "GroupRows") (T := FX) (N := 11) hx hb hta inX hown hK hP 0 rfl rfl 5 (by decide) (hta _ w24) (fun _ h9 => h9) rfl dX_takeFact_50 ?_
    refine lv_iload_n hx hb dX_takeFact_53 rfl (lv_at hl 0 rfl) ?_
    refine gi_iald hx hb hK hP 3 2 rfl rfl (k := ps) (by omega) (by decide) dX_takeFact_54 ?_
    refine gi_as (y := nI (σ ps)) (hσ.1 ps (by omega)) ?_
    refine lv_iload_n hx hb dX_takeFact_55 rfl (lv_at hl 2 rfl) ?_
    have hPc := hP
    have hDc := hD
    have hKc := hK
    have hFc := va_free (wc := (wX a k (nI wn) (nI mn) (nI T.1) fk fa sl ks ct sm le gr)) hD hS hA [0, 1, 2, 3, 4, 5, 6, 7, 8] rfl
    refine va_callv (va_runV (As := [.int (nI (σ ps)), .int nn]) (rest := []) ⟨hx, hb, hml, hown, hta⟩ (c_joinFact l dC dI a k mn (nI wn) (nI T.1) fk fa sl ks ct sm le gr (σ ps) nn (hσ.2.1 ps (by omega)) hmn s.heap.size) (cwV 2 hta (gV w207 w209 sX_joinFact w1 w210) rfl rfl rfl (by decide +kernel) ⟨Nat.le_of_ble_eq_true rfl, Nat.le_of_ble_eq_true rfl⟩) ⟨gb_W, va_recv hKc hPc (ci := 0) (q0 := 0) rfl rfl, fun U hU hW => ⟨rfl, by rw [hU], by rw [hU]; exact hPc, va_K.moved hW.alike hKc, hDc.weaken (fun _ _ _ _ => trivial)⟩⟩ rfl rfl hl.1 rfl (lv_room (Nat.le_of_ble_eq_true rfl)) dX_takeFact_56 ⟨Nat.le_of_ble_eq_true rfl, Nat.le_of_ble_eq_true rfl⟩) hS (fun q _ h => hFc q h) hFc (fun u t H1 locs ht hvm hw hB hz1 hk1 hS => ?_)
    obtain ⟨hP1, hK1, hD1⟩ := hB
    rw [ht] at hP1
    obtain ⟨hP, hD⟩ := va_join (wr := []) (w1 := (wX a k (nI wn) (nI mn) (nI T.1) fk fa sl ks (vp_updL ct (σ ps) (ct (σ ps) + nn.toInt64)) (upTo (fun m x => x + fa m * nn.toInt64) (8 * (σ ps)) sm mn) (upTo (fun m x => if fa m < x then fa m else x) (8 * (σ ps)) le mn) (upTo (fun m x => if fa m < x then x else fa m) (8 * (σ ps)) gr mn))) hP hD [0, 1, 2, 3, 4, 5, 6, 7, 8] [] rfl rfl (by decide) (by decide) hk1 hFc hP1 hD1
    generalize H1 = H at hP hS ⊢
    have hP : va_P (dC, dI) classes (wX a k (nI wn) (nI mn) (nI T.1) fk fa sl ks (vp_updL ct (σ ps) (ct (σ ps) + nn.toInt64)) (upTo (fun m x => x + fa m * nn.toInt64) (8 * (σ ps)) sm mn) (upTo (fun m x => if fa m < x then fa m else x) (8 * (σ ps)) le mn) (upTo (fun m x => if fa m < x then x else fa m) (8 * (σ ps)) gr mn)) H := hP
    have hD : va_D A (wX a k (nI wn) (nI mn) (nI T.1) fk fa sl ks (vp_updL ct (σ ps) (ct (σ ps) + nn.toInt64)) (upTo (fun m x => x + fa m * nn.toInt64) (8 * (σ ps)) sm mn) (upTo (fun m x => if fa m < x then fa m else x) (8 * (σ ps)) le mn) (upTo (fun m x => if fa m < x then x else fa m) (8 * (σ ps)) gr mn)) := hD
    refine lv_iconst (v := 1) hx hb dX_takeFact_59 (by decide) ?_
    have hn2 := rep_takeHit (fa := fa) (nn := nn.toInt64) hσ hrep hc.1
    have e9 := takeT_hit (fa := fa) (nn := nn.toInt64) hc2
    rw [← eps] at e9
    exact W.zret (v := 1) hx hb hr rfl (fun t9 ht9 hW9 => ⟨⟨1, (), rfl, by rw [e9]; rfl, by rw [e9]; exact ⟨σ, sl, ks, _, _, _, _, ⟨hσ, hn2⟩, by rw [ht9]; exact hP, va_K.moved hW9.alike hK, hD⟩⟩, hS.F ht9⟩) hS.2.2 dX_takeFact_60
  · skip
    have hc : ¬ (ps < T.1 ∧ lx (fun i => ks (8 * σ ps + i)) (fun i => fk (0 + i)) wn 0 = 0) := fun q => by rw [if_pos q] at h1; exact absurd h1 (by decide)
    have hc2 : ¬ (lowP wn T.1 T.2.1 fk < T.1 ∧ lx (T.2.1 (lowP wn T.1 T.2.1 fk)) fk wn 0 = 0) := by rw [← eps]; exact fun q => hc ((rep_has hrep).mpr q)
    refine lv_aload_n hx hb dX_takeFact_31 rfl (lv_at hl 1 rfl) ?_
    refine va_get (D := (dC, dI)) (ci := 0) (v := .int (nI T.1)) (C := "GroupRows") (T := FX) (N := 11) hx hb hta inX hown hK hP 0 rfl rfl 2 (by decide) (hta _ w21) (fun _ h9 => h9) rfl dX_takeFact_32 ?_
    refine lv_sipush (v := 1000) hx hb dX_takeFact_35 (by decide) ?_
    refine lv_icmp_lt (tgt := 43) hx hb dX_takeFact_38 (by decide) (fun h2 => ?_) (fun h2 => ?_)
    · skip
      have h2 : T.1 < 1000 := (nI_ltI (b := 1000) (by omega) (by omega)).mp h2
      refine lv_aload_n hx hb dX_takeFact_43 rfl (lv_at hl 1 rfl) ?_
      refine lv_iload_n hx hb dX_takeFact_44 rfl (lv_at hl 0 rfl) ?_
      have hPc := hP
      have hDc := hD
      have hKc := hK
      have hFc := va_free (wc := (wX a k (nI wn) (nI mn) (nI T.1) fk fa sl ks ct sm le gr)) hD hS hA [0, 1, 2, 3, 4, 5, 6, 7, 8] rfl
      refine va_callv (va_runV (As := [.int (nI ps)]) (rest := []) ⟨hx, hb, hml, hown, hta⟩ (c_openRow l dC dI a k wn mn T.1 fk fa sl ks ct sm le gr ps (σ T.1) hwn hmn hps h2 (hσ.2.1 T.1 h2) (hσ.1 T.1 h2) s.heap.size) (cwV 1 hta (gV w196 w198 sX_openRow w1 w199) rfl rfl rfl (by decide +kernel) ⟨Nat.le_of_ble_eq_true rfl, Nat.le_of_ble_eq_true rfl⟩) ⟨gb_W, va_recv hKc hPc (ci := 0) (q0 := 0) rfl rfl, fun U hU hW => ⟨rfl, by rw [hU], by rw [hU]; exact hPc, va_K.moved hW.alike hKc, hDc.weaken (fun _ _ _ _ => trivial)⟩⟩ rfl rfl hl.1 rfl (lv_room (Nat.le_of_ble_eq_true rfl)) dX_takeFact_45 ⟨Nat.le_of_ble_eq_true rfl, Nat.le_of_ble_eq_true rfl⟩) hS (fun q _ h => hFc q h) hFc (fun u t H1 locs ht hvm hw hB hz1 hk1 hS => ?_)
      obtain ⟨hP1, hK1, hD1⟩ := hB
      rw [ht] at hP1
      obtain ⟨hP, hD⟩ := va_join (wr := []) (w1 := (wX a k (nI wn) (nI mn) (nI (T.1 + 1)) fk fa (insL sl ps T.1 (nI (σ T.1))) (va_cpy fk ks 0 (8 * (σ T.1)) wn) (vp_updL ct (σ T.1) 0) (upTo (fun _ _ => 0) (8 * (σ T.1)) sm mn) (upTo (fun m _ => fa m) (8 * (σ T.1)) le mn) (upTo (fun m _ => fa m) (8 * (σ T.1)) gr mn))) hP hD [0, 1, 2, 3, 4, 5, 6, 7, 8] [] rfl rfl (by decide) (by decide) hk1 hFc hP1 hD1
      generalize H1 = H at hP hS ⊢
      have hP : va_P (dC, dI) classes (wX a k (nI wn) (nI mn) (nI (T.1 + 1)) fk fa (insL sl ps T.1 (nI (σ T.1))) (va_cpy fk ks 0 (8 * (σ T.1)) wn) (vp_updL ct (σ T.1) 0) (upTo (fun _ _ => 0) (8 * (σ T.1)) sm mn) (upTo (fun m _ => fa m) (8 * (σ T.1)) le mn) (upTo (fun m _ => fa m) (8 * (σ T.1)) gr mn)) H := hP
      have hD : va_D A (wX a k (nI wn) (nI mn) (nI (T.1 + 1)) fk fa (insL sl ps T.1 (nI (σ T.1))) (va_cpy fk ks 0 (8 * (σ T.1)) wn) (vp_updL ct (σ T.1) 0) (upTo (fun _ _ => 0) (8 * (σ T.1)) sm mn) (upTo (fun m _ => fa m) (8 * (σ T.1)) le mn) (upTo (fun m _ => fa m) (8 * (σ T.1)) gr mn)) := hD
      refine lv_aload_n hx hb dX_takeFact_48 rfl (lv_at hl 1 rfl) ?_
      refine lv_aload_n hx hb dX_takeFact_49 rfl (lv_at hl 1 rfl) ?_
      refine va_get (D := (dC, dI)) (ci := 0) (v := .ref (a 3)) (C := "GroupRows") (T := FX) (N := 11) hx hb hta inX hown hK hP 0 rfl rfl 5 (by decide) (hta _ w24) (fun _ h9 => h9) rfl dX_takeFact_50 ?_
      refine lv_iload_n hx hb dX_takeFact_53 rfl (lv_at hl 0 rfl) ?_
      refine gi_iald hx hb hK hP 3 2 rfl rfl (k := ps) (by omega) (by decide) dX_takeFact_54 ?_
      refine gi_as (y := nI (σ T.1)) (by simp [insL]) ?_
      refine lv_iload_n hx hb dX_takeFact_55 rfl (lv_at hl 2 rfl) ?_
      have hPc := hP
      have hDc := hD
      have hKc := hK
      have hFc := va_free (wc := (wX a k (nI wn) (nI mn) (nI (T.1 + 1)) fk fa (insL sl ps T.1 (nI (σ T.1))) (va_cpy fk ks 0 (8 * (σ T.1)) wn) (vp_updL ct (σ T.1) 0) (upTo (fun _ _ => 0) (8 * (σ T.1)) sm mn) (upTo (fun m _ => fa m) (8 * (σ T.1)) le mn) (upTo (fun m _ => fa m) (8 * (σ T.1)) gr mn))) hD hS hA [0, 1, 2, 3, 4, 5, 6, 7, 8] rfl
      refine va_callv (va_runV (As := [.int (nI (σ T.1)), .int nn]) (rest := []) ⟨hx, hb, hml, hown, hta⟩ (c_joinFact l dC dI a k mn (nI wn) (nI (T.1 + 1)) fk fa (insL sl ps T.1 (nI (σ T.1))) (va_cpy fk ks 0 (8 * (σ T.1)) wn) (vp_updL ct (σ T.1) 0) (upTo (fun _ _ => 0) (8 * (σ T.1)) sm mn) (upTo (fun m _ => fa m) (8 * (σ T.1)) le mn) (upTo (fun m _ => fa m) (8 * (σ T.1)) gr mn) (σ T.1) nn (hσ.2.1 T.1 h2) hmn H.size) (cwV 2 hta (gV w207 w209 sX_joinFact w1 w210) rfl rfl rfl (by decide +kernel) ⟨Nat.le_of_ble_eq_true rfl, Nat.le_of_ble_eq_true rfl⟩) ⟨gb_W, va_recv hKc hPc (ci := 0) (q0 := 0) rfl rfl, fun U hU hW => ⟨rfl, by rw [hU], by rw [hU]; exact hPc, va_K.moved hW.alike hKc, hDc.weaken (fun _ _ _ _ => trivial)⟩⟩ rfl rfl hl.1 rfl (lv_room (Nat.le_of_ble_eq_true rfl)) dX_takeFact_56 ⟨Nat.le_of_ble_eq_true rfl, Nat.le_of_ble_eq_true rfl⟩) hS (fun q _ h => hFc q h) hFc (fun u t H1 locs ht hvm hw hB hz1 hk1 hS => ?_)
      obtain ⟨hP1, hK1, hD1⟩ := hB
      rw [ht] at hP1
      obtain ⟨hP, hD⟩ := va_join (wr := []) (w1 := (wX a k (nI wn) (nI mn) (nI (T.1 + 1)) fk fa (insL sl ps T.1 (nI (σ T.1))) (va_cpy fk ks 0 (8 * (σ T.1)) wn) (vp_updL (vp_updL ct (σ T.1) 0) (σ T.1) ((vp_updL ct (σ T.1) 0) (σ T.1) + nn.toInt64)) (upTo (fun m x => x + fa m * nn.toInt64) (8 * (σ T.1)) (upTo (fun _ _ => 0) (8 * (σ T.1)) sm mn) mn) (upTo (fun m x => if fa m < x then fa m else x) (8 * (σ T.1)) (upTo (fun m _ => fa m) (8 * (σ T.1)) le mn) mn) (upTo (fun m x => if fa m < x then x else fa m) (8 * (σ T.1)) (upTo (fun m _ => fa m) (8 * (σ T.1)) gr mn) mn))) hP hD [0, 1, 2, 3, 4, 5, 6, 7, 8] [] rfl rfl (by decide) (by decide) hk1 hFc hP1 hD1
      generalize H1 = H at hP hS ⊢
      have hP : va_P (dC, dI) classes (wX a k (nI wn) (nI mn) (nI (T.1 + 1)) fk fa (insL sl ps T.1 (nI (σ T.1))) (va_cpy fk ks 0 (8 * (σ T.1)) wn) (vp_updL (vp_updL ct (σ T.1) 0) (σ T.1) ((vp_updL ct (σ T.1) 0) (σ T.1) + nn.toInt64)) (upTo (fun m x => x + fa m * nn.toInt64) (8 * (σ T.1)) (upTo (fun _ _ => 0) (8 * (σ T.1)) sm mn) mn) (upTo (fun m x => if fa m < x then fa m else x) (8 * (σ T.1)) (upTo (fun m _ => fa m) (8 * (σ T.1)) le mn) mn) (upTo (fun m x => if fa m < x then x else fa m) (8 * (σ T.1)) (upTo (fun m _ => fa m) (8 * (σ T.1)) gr mn) mn)) H := hP
      have hD : va_D A (wX a k (nI wn) (nI mn) (nI (T.1 + 1)) fk fa (insL sl ps T.1 (nI (σ T.1))) (va_cpy fk ks 0 (8 * (σ T.1)) wn) (vp_updL (vp_updL ct (σ T.1) 0) (σ T.1) ((vp_updL ct (σ T.1) 0) (σ T.1) + nn.toInt64)) (upTo (fun m x => x + fa m * nn.toInt64) (8 * (σ T.1)) (upTo (fun _ _ => 0) (8 * (σ T.1)) sm mn) mn) (upTo (fun m x => if fa m < x then fa m else x) (8 * (σ T.1)) (upTo (fun m _ => fa m) (8 * (σ T.1)) le mn) mn) (upTo (fun m x => if fa m < x then x else fa m) (8 * (σ T.1)) (upTo (fun m _ => fa m) (8 * (σ T.1)) gr mn) mn)) := hD
      refine lv_iconst (v := 1) hx hb dX_takeFact_59 (by decide) ?_
      have hne : ps < T.1 → ¬ keq wn (T.2.1 ps) fk := fun q1 q2 => hc2 (by rw [← eps]; exact ⟨q1, lx_eq.mpr q2⟩)
      have hn2 := rep_takeNew (fa := fa) (nn := nn.toInt64) hσ hrep h2 hlow2 hne
      have e9 := takeT_new (fa := fa) (nn := nn.toInt64) hc2 h2
      rw [← eps] at e9
      exact W.zret (v := 1) hx hb hr rfl (fun t9 ht9 hW9 => ⟨⟨1, (), rfl, by rw [e9]; rfl, by rw [e9]; exact ⟨_, _, _, _, _, _, _, hn2, by rw [ht9]; exact hP, va_K.moved hW9.alike hK, hD⟩⟩, hS.F ht9⟩) hS.2.2 dX_takeFact_60
    · skip
      have h2 : ¬ T.1 < 1000 := fun q => h2 (nI_lt (b := 1000) q (by decide))
      refine lv_iconst (v := 0) hx hb dX_takeFact_41 (by decide) ?_
      have e9 := takeT_full (fa := fa) (nn := nn.toInt64) hc2 h2
      exact W.zret (v := 0) hx hb hr rfl (fun t9 ht9 hW9 => ⟨⟨0, (), rfl, by rw [e9]; rfl, by rw [e9]; exact ⟨σ, sl, ks, _, _, _, _, ⟨hσ, hrep⟩, by rw [ht9]; exact hP, va_K.moved hW9.alike hK, hD⟩⟩, hS.F ht9⟩) hS.2.2 dX_takeFact_42
