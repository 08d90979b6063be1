set_option maxHeartbeats 4000000 in
set_option maxRecDepth 100000 in
theorem c_Mroll (l : Launch) (dC : Nat → ClassId) (dI : Nat → Nat → Nat) (b : Nat → Nat) (d : Nat → ClassId) (cd : Int32) (wn mn : Nat) (fk : Nat → Int32) (fa : Nat → Int64) (T : TB) (ks2 : Nat → Int32) (ct2 sm2 le2 gr2 : Nat → Int64) (hrep : repT (fun p => p) wn mn T ks2 ct2 sm2 le2 gr2) (i : Int32) (sz : Nat)  : Met l yM_roll (Cond.code yM_roll bM_roll 6 (some .int) :: wAll) { frames := 3, cells := 0, slots := 0, locals := 128 } (va_Pc [.ref (b 0), .int i] (fun U => U.heap.size = sz ∧ va_P (dC, dI) classes (wM b d cd (nI wn) (nI mn) (nI T.1) ks2 ct2 sm2 le2 gr2 fk fa) U.heap ∧ va_K (dC, dI) classes (kM d) U ∧ va_D (fun _ => True) (wM b d cd (nI wn) (nI mn) (nI T.1) ks2 ct2 sm2 le2 gr2 fk fa))) (va_Qi (fun (r9 : Int32) (u9 : TB) => r9 = if 0 ≤ i ∧ i < nI wn then nI u9.1 else 0) (fun (u9 : TB) (t9 : State) => ((0 ≤ i ∧ i < nI wn) → rollR wn mn i.toNatClampNeg T u9 ∧ atM dC dI (va_A (wM b d cd (nI wn) (nI mn) (nI T.1) ks2 ct2 sm2 le2 gr2 fk fa) sz) b d 0 wn mn fk fa u9 t9) ∧ (¬ (0 ≤ i ∧ i < nI wn) → atM dC dI (va_A (wM b d cd (nI wn) (nI mn) (nI T.1) ks2 ct2 sm2 le2 gr2 fk fa) sz) b d 1 wn mn fk fa T t9)) (va_A (wM b d cd (nI wn) (nI mn) (nI T.1) ks2 ct2 sm2 le2 gr2 fk fa) sz)) 0 0 (va_A (wM b d cd (nI wn) (nI mn) (nI T.1) ks2 ct2 sm2 le2 gr2 fk fa) sz) := by
  refine Met.ofW (cc := bM_roll) (maxL := 6) (ret := (some .int)) (by decide) rfl ?_
  intro p e s m args below meth c s₁ B hml hv
  obtain ⟨rfl, hsz, hP, hK, hD0⟩ := hv
  have hx := B.exec
  have hb := B.bytes
  have hr := B.returns
  have hta : ∀ w ∈ wAll, w.before ([.ref (b 0), .int i] : List Value).toArray s = true := fun w h => atoms_spec (ws := (Cond.code yM_roll bM_roll 6 (some .int) :: wAll)) B.pre w (List.mem_cons_of_mem _ h)
  have hown : s.vm.findClass "GroupRowsModel" = some m.cls := findClass_of_methodNamed B.named
  have hlocks := B.notSynchronized
  subst hsz
  have hD := hD0.self (sz := s.heap.size)
  generalize hAe : va_A (wM b d cd (nI wn) (nI mn) (nI T.1) ks2 ct2 sm2 le2 gr2 fk fa) s.heap.size = A at hD ⊢
  have hA : ∀ q : Nat, s.heap.size ≤ q → A q := fun q h => by rw [← hAe]; exact Or.inr h
  have hS : va_S A s.heap s.heap [] := va_S.rf
  have hP : va_P (dC, dI) classes (wM b d cd (nI wn) (nI mn) (nI T.1) ks2 ct2 sm2 le2 gr2 fk fa) s.heap := hP
  have hl := lv_entry ([.ref (b 0), .int i]) (n := 6) (Nat.le_of_ble_eq_true rfl)
  rw [lg_entry_eq]
  generalize (lg_sl ([.ref (b 0), .int i]) ++ List.replicate (6 - (lg_sl ([.ref (b 0), .int i])).length) Slot.unset).toArray = ls at hl ⊢
  have hl : lv_has ls 6 [(0, .ref (b 0)), (1, .int i)] := hl
  obtain ⟨⟨hwn, hmn1, hmn, hn⟩, hk9, hc9, hv9, hs9⟩ := id hrep
  refine lv_aload_n hx hb dM_roll_0 rfl (lv_at hl 0 rfl) ?_
  refine lv_iload_n hx hb dM_roll_1 rfl (lv_at hl 1 rfl) ?_
  refine lv_if_lt (tgt := 13) hx hb dM_roll_2 (by decide) (fun h1 => ?_) (fun h1 => ?_)
  · skip
    refine lv_iconst (v := 1) hx hb dM_roll_13 (by decide) ?_
    refine lv_goto (tgt := 18) hx hb dM_roll_14 (by decide) ?_
    refine va_put (D := (dC, dI)) (ci := 1) (v := .int 1) (ty := .int) (C := "GroupRowsModel") (T := FM) (N := 11) hx hb hta inM tM tMok nM hown hK hP hD hS 0 rfl rfl 0 (by decide) (hta _ w278) (fun _ h9 => h9) rfl (by decide +kernel) rfl rfl (Nat.le_of_ble_eq_true rfl) dM_roll_18 (fun H locs hP hD hS => ?_)
    have hP : va_P (dC, dI) classes (wM b d 1 (nI wn) (nI mn) (nI T.1) ks2 ct2 sm2 le2 gr2 fk fa) H := hP
    have hD : va_D A (wM b d 1 (nI wn) (nI mn) (nI T.1) ks2 ct2 sm2 le2 gr2 fk fa) := hD
    refine lv_aload_n hx hb dM_roll_21 rfl (lv_at hl 0 rfl) ?_
    refine va_get (D := (dC, dI)) (ci := 1) (v := .int 1) (C := "GroupRowsModel") (T := FM) (N := 11) hx hb hta inM hown hK hP 0 rfl rfl 0 (by decide) (hta _ w278) (fun _ h9 => h9) rfl dM_roll_22 ?_
    refine lv_if_le (tgt := 30) hx hb dM_roll_25 (by decide) (fun hz => ?_) (fun hz => ?_)
    · skip
      exact absurd hz (by decide)
    · skip
      refine lv_iconst (v := 0) hx hb dM_roll_28 (by decide) ?_
      exact W.iret (v := 0) hx hb hr (fun t9 ht9 hW9 => ⟨⟨0, T, rfl, (if_neg (fun q => absurd q.1 (Int32.not_le.mpr h1))).symm, ⟨fun h9 => absurd h9 (fun q => absurd q.1 (Int32.not_le.mpr h1)), fun _ => ⟨_, _, _, _, _, hrep, by rw [ht9]; exact hP, va_K.moved hW9.alike hK, hD⟩⟩⟩, hS.F ht9⟩) hS.2.2 dM_roll_29
  · skip
    refine lv_iload_n hx hb dM_roll_5 rfl (lv_at hl 1 rfl) ?_
    refine lv_aload_n hx hb dM_roll_6 rfl (lv_at hl 0 rfl) ?_
    refine va_get (D := (dC, dI)) (ci := 1) (v := .int (nI wn)) (C := "GroupRowsModel") (T := FM) (N := 11) hx hb hta inM hown hK hP 0 rfl rfl 1 (by decide) (hta _ w279) (fun _ h9 => h9) rfl dM_roll_7 ?_
    refine lv_icmp_lt (tgt := 17) hx hb dM_roll_10 (by decide) (fun h2 => ?_) (fun h2 => ?_)
    · skip
      refine lv_iconst (v := 0) hx hb dM_roll_17 (by decide) ?_
      refine va_put (D := (dC, dI)) (ci := 1) (v := .int 0) (ty := .int) (C := "GroupRowsModel") (T := FM) (N := 11) hx hb hta inM tM tMok nM hown hK hP hD hS 0 rfl rfl 0 (by decide) (hta _ w278) (fun _ h9 => h9) rfl (by decide +kernel) rfl rfl (Nat.le_of_ble_eq_true rfl) dM_roll_18 (fun H locs hP hD hS => ?_)
      have hP : va_P (dC, dI) classes (wM b d 0 (nI wn) (nI mn) (nI T.1) ks2 ct2 sm2 le2 gr2 fk fa) H := hP
      have hD : va_D A (wM b d 0 (nI wn) (nI mn) (nI T.1) ks2 ct2 sm2 le2 gr2 fk fa) := hD
      refine lv_aload_n hx hb dM_roll_21 rfl (lv_at hl 0 rfl) ?_
      refine va_get (D := (dC, dI)) (ci := 1) (v := .int 0) (C := "GroupRowsModel") (T := FM) (N := 11) hx hb hta inM hown hK hP 0 rfl rfl 0 (by decide) (hta _ w278) (fun _ h9 => h9) rfl dM_roll_22 ?_
      refine lv_if_le (tgt := 30) hx hb dM_roll_25 (by decide) (fun hz => ?_) (fun hz => ?_)
      rotate_left
      · skip
        exact absurd (by decide) hz
      · skip
        have hL : 0 ≤ i ∧ i < nI wn := ⟨Int32.not_lt.mp h1, h2⟩
        obtain ⟨j, hj, ej, cj⟩ := in_nI (by omega) hL
        subst ej
        refine lv_iconst (v := 0) hx hb dM_roll_30 (by decide) ?_
        refine gi_as (y := nI 0) (nI_0.symm) ?_
        refine lv_istore_n (lv' := [(2, .int (nI 0)), (0, .ref (b 0)), (1, .int (nI j))]) hx hb dM_roll_31 rfl hl (by decide) rfl (fun ls hl => ?_)
        have loop : ∀ (kk pp : Nat), pp + kk = T.1 → ∀ (H : Heap) (locs : List Loc), va_P (dC, dI) classes (wM b d 0 (nI wn) (nI mn) (nI T.1) (rolA (fun p => p) j ks2 pp) ct2 sm2 le2 gr2 fk fa) H → va_D A (wM b d 0 (nI wn) (nI mn) (nI T.1) (rolA (fun p => p) j ks2 pp) ct2 sm2 le2 gr2 fk fa) → va_S A s.heap H locs → ∀ (ls : Array Slot), lv_has ls 6 [(2, .int (nI pp)), (0, .ref (b 0)), (1, .int (nI j))] → W p l e (headSpec (Cond.code yM_roll bM_roll 6 (some .int) :: wAll) { frames := 3, cells := 0, slots := 0, locals := 128 }).room s m ([.ref (b 0), .int (nI j)] : List Value).toArray below meth c H locs 0 0 (MQ below (va_Qi (fun (r9 : Int32) (u9 : TB) => r9 = if 0 ≤ nI j ∧ nI j < nI wn then nI u9.1 else 0) (fun (u9 : TB) (t9 : State) => ((0 ≤ nI j ∧ nI j < nI wn) → rollR wn mn (nI j).toNatClampNeg T u9 ∧ atM dC dI A b d 0 wn mn fk fa u9 t9) ∧ (¬ (0 ≤ nI j ∧ nI j < nI wn) → atM dC dI A b d 1 wn mn fk fa T t9)) A) ([.ref (b 0), .int (nI j)] : List Value).toArray s 0 0 A) (F0 m 32 ls []) := by
          intro kk
          induction kk with
          | zero =>
            intro pp hpp H locs hP hD hS ls hl
            refine lv_iload_n hx hb dM_roll_32 rfl (lv_at hl 0 rfl) ?_
            refine lv_aload_n hx hb dM_roll_33 rfl (lv_at hl 1 rfl) ?_
            refine va_get (D := (dC, dI)) (ci := 1) (v := .int (nI T.1)) (C := "GroupRowsModel") (T := FM) (N := 11) hx hb hta inM hown hK hP 0 rfl rfl 3 (by decide) (hta _ w281) (fun _ h9 => h9) rfl dM_roll_34 ?_
            refine lv_icmp_ge (tgt := 59) hx hb dM_roll_37 (by decide) (fun h3 => ?_) (fun h3 => ?_)
            · skip
              have hj9 : T.1 = pp := by omega
              subst hj9
              refine lv_iconst (v := 0) hx hb dM_roll_59 (by decide) ?_
              refine gi_as (y := nI 0) (nI_0.symm) ?_
              refine lv_istore_n (lv' := [(2, .int (nI 0)), (0, .ref (b 0)), (1, .int (nI j))]) hx hb dM_roll_60 rfl hl (by decide) rfl (fun ls hl => ?_)
              refine lv_iconst (v := 0) hx hb dM_roll_61 (by decide) ?_
              refine gi_as (y := nI 0) (nI_0.symm) ?_
              refine lv_istore_n (lv' := [(3, .int (nI 0)), (2, .int (nI 0)), (0, .ref (b 0)), (1, .int (nI j))]) hx hb dM_roll_62 rfl hl (by decide) rfl (fun ls hl => ?_)
              have dd : ∀ (kk pp kp : Nat) (ks1 : Nat → Int32) (ct1 sm1 le1 gr1 : Nat → Int64), pp + kk = T.1 → ddI wn mn T.1 (rolA (fun p => p) j ks2 T.1) ct2 sm2 le2 gr2 pp kp ks1 ct1 sm1 le1 gr1 → ∀ (H : Heap) (locs : List Loc), va_P (dC, dI) classes (wM b d 0 (nI wn) (nI mn) (nI T.1) ks1 ct1 sm1 le1 gr1 fk fa) H → va_D A (wM b d 0 (nI wn) (nI mn) (nI T.1) ks1 ct1 sm1 le1 gr1 fk fa) → va_S A s.heap H locs → ∀ (ls : Array Slot), lv_has ls 6 [(3, .int (nI pp)), (2, .int (nI kp)), (0, .ref (b 0))] → W p l e (headSpec (Cond.code yM_roll bM_roll 6 (some .int) :: wAll) { frames := 3, cells := 0, slots := 0, locals := 128 }).room s m ([.ref (b 0), .int (nI j)] : List Value).toArray below meth c H locs 0 0 (MQ below (va_Qi (fun (r9 : Int32) (u9 : TB) => r9 = if 0 ≤ nI j ∧ nI j < nI wn then nI u9.1 else 0) (fun (u9 : TB) (t9 : State) => ((0 ≤ nI j ∧ nI j < nI wn) → rollR wn mn (nI j).toNatClampNeg T u9 ∧ atM dC dI A b d 0 wn mn fk fa u9 t9) ∧ (¬ (0 ≤ nI j ∧ nI j < nI wn) → atM dC dI A b d 1 wn mn fk fa T t9)) A) ([.ref (b 0), .int (nI j)] : List Value).toArray s 0 0 A) (F0 m 63 ls []) := by
                intro kk
                induction kk with
                | zero =>
                  intro pp kp ks1 ct1 sm1 le1 gr1 hpp hI H locs hP hD hS ls hl
                  obtain ⟨⟨b1, b2, b3, b4, b5⟩, hd1, hg1⟩ := id hI
                  refine lv_iload_n hx hb dM_roll_63 rfl (lv_at hl 0 rfl) ?_
                  refine lv_aload_n hx hb dM_roll_64 rfl (lv_at hl 2 rfl) ?_
                  refine va_get (D := (dC, dI)) (ci := 1) (v := .int (nI T.1)) (C := "GroupRowsModel") (T := FM) (N := 11) hx hb hta inM hown hK hP 0 rfl rfl 3 (by decide) (hta _ w281) (fun _ h9 => h9) rfl dM_roll_65 ?_
                  refine lv_icmp_ge (tgt := 142) hx hb dM_roll_68 (by decide) (fun h4 => ?_) (fun h4 => ?_)
                  · skip
                    have hj8 : T.1 = pp := by omega
                    rw [← hj8] at hg1
                    refine lv_aload_n hx hb dM_roll_142 rfl (lv_at hl 2 rfl) ?_
                    refine lv_iload_n hx hb dM_roll_143 rfl (lv_at hl 1 rfl) ?_
                    refine va_put (D := (dC, dI)) (ci := 1) (v := .int (nI kp)) (ty := .int) (C := "GroupRowsModel") (T := FM) (N := 11) hx hb hta inM tM tMok nM hown hK hP hD hS 0 rfl rfl 3 (by decide) (hta _ w281) (fun _ h9 => h9) rfl (by decide +kernel) rfl rfl (Nat.le_of_ble_eq_true rfl) dM_roll_144 (fun H locs hP hD hS => ?_)
                    have hP : va_P (dC, dI) classes (wM b d 0 (nI wn) (nI mn) (nI kp) ks1 ct1 sm1 le1 gr1 fk fa) H := hP
                    have hD : va_D A (wM b d 0 (nI wn) (nI mn) (nI kp) ks1 ct1 sm1 le1 gr1 fk fa) := hD
                    refine lv_aload_n hx hb dM_roll_147 rfl (lv_at hl 2 rfl) ?_
                    have hPc := hP
                    have hDc := hD
                    have hKc := hK
                    have hFc := va_free (wc := (wM b d 0 (nI wn) (nI mn) (nI kp) ks1 ct1 sm1 le1 gr1 fk fa)) hD hS hA [0, 1, 2, 3, 4, 5, 6, 7] rfl
                    refine va_callv (va_runV (As := []) (rest := []) ⟨hx, hb, hml, hown, hta⟩ (c_sort l dC dI b d 0 wn mn kp fk fa ks1 ct1 sm1 le1 gr1 T.1 _ _ _ _ _ hwn hmn (by omega) hg1 H.size) (cwV 0 hta (gV w366 w368 sM_sort w2 w369) rfl rfl rfl (by decide +kernel) ⟨Nat.le_of_ble_eq_true rfl, Nat.le_of_ble_eq_true rfl⟩) ⟨gb_W, va_recv hKc hPc (ci := 1) (q0 := 0) rfl rfl, fun U hU hW => ⟨rfl, by rw [hU], by rw [hU]; exact hPc, va_K.moved hW.alike hKc, hDc.weaken (fun _ _ _ _ => trivial)⟩⟩ rfl rfl hl.1 rfl (lv_room (Nat.le_of_ble_eq_true rfl)) dM_roll_148 ⟨Nat.le_of_ble_eq_true rfl, Nat.le_of_ble_eq_true rfl⟩) hS (fun q _ h => hFc q h) hFc (fun u t H1 locs ht hvm hw hB hz1 hk1 hS => ?_)
                    obtain ⟨ks3, ct3, sm3, le3, gr3, ⟨hs3, hg3⟩, hP1, hK1, hD1⟩ := hB
                    rw [ht] at hP1
                    obtain ⟨hP, hD⟩ := va_join (wr := []) (w1 := (wM b d 0 (nI wn) (nI mn) (nI kp) ks3 ct3 sm3 le3 gr3 fk fa)) hP hD [0, 1, 2, 3, 4, 5, 6, 7] [] rfl rfl (by decide) (by decide) hk1 hFc hP1 hD1
                    generalize H1 = H at hP hS ⊢
                    have hP : va_P (dC, dI) classes (wM b d 0 (nI wn) (nI mn) (nI kp) ks3 ct3 sm3 le3 gr3 fk fa) H := hP
                    have hD : va_D A (wM b d 0 (nI wn) (nI mn) (nI kp) ks3 ct3 sm3 le3 gr3 fk fa) := hD
                    refine lv_aload_n hx hb dM_roll_151 rfl (lv_at hl 2 rfl) ?_
                    refine va_get (D := (dC, dI)) (ci := 1) (v := .int (nI kp)) (C := "GroupRowsModel") (T := FM) (N := 11) hx hb hta inM hown hK hP 0 rfl rfl 3 (by decide) (hta _ w281) (fun _ h9 => h9) rfl dM_roll_152 ?_
                    obtain ⟨hroll, hr9⟩ := dd_roll hj hrep (by omega) hs3 hg3
                    exact W.iret (v := (nI kp)) hx hb hr (fun t9 ht9 hW9 => ⟨⟨(nI kp), rgT kp (fun p => p) ks3 ct3 sm3 le3 gr3, rfl, (if_pos hL).symm, ⟨fun _ => by rw [cj]; exact ⟨hroll, ks3, ct3, sm3, le3, gr3, hr9, by rw [ht9]; exact hP, va_K.moved hW9.alike hK, hD⟩, fun h9 => absurd (hL) h9⟩⟩, hS.F ht9⟩) hS.2.2 dM_roll_155
                  · skip
                    exact absurd (nI_le (by omega) (by omega)) h4
                | succ kk ih2 =>
                  intro pp kp ks1 ct1 sm1 le1 gr1 hpp hI H locs hP hD hS ls hl
                  obtain ⟨⟨b1, b2, b3, b4, b5⟩, hd1, hg1⟩ := id hI
                  refine lv_iload_n hx hb dM_roll_63 rfl (lv_at hl 0 rfl) ?_
                  refine lv_aload_n hx hb dM_roll_64 rfl (lv_at hl 2 rfl) ?_
                  refine va_get (D := (dC, dI)) (ci := 1) (v := .int (nI T.1)) (C := "GroupRowsModel") (T := FM) (N := 11) hx hb hta inM hown hK hP 0 rfl rfl 3 (by decide) (hta _ w281) (fun _ h9 => h9) rfl dM_roll_65 ?_
                  refine lv_icmp_ge (tgt := 142) hx hb dM_roll_68 (by decide) (fun h4 => ?_) (fun h4 => ?_)
                  · skip
                    exact absurd h4 (nI_ge (a := pp) (by omega) (by omega))
                  · skip
                    refine lv_iconst (v := (-1)) hx hb dM_roll_71 (by decide) ?_
                    refine lv_istore (lv' := [(4, .int (-1)), (3, .int (nI pp)), (2, .int (nI kp)), (0, .ref (b 0))]) hx hb dM_roll_72 hl (by decide) rfl (fun ls hl => ?_)
                    refine lv_iconst (v := 0) hx hb dM_roll_74 (by decide) ?_
                    refine gi_as (y := nI 0) (nI_0.symm) ?_
                    refine lv_istore (lv' := [(5, .int (nI 0)), (4, .int (-1)), (3, .int (nI pp)), (2, .int (nI kp)), (0, .ref (b 0))]) hx hb dM_roll_75 hl (by decide) rfl (fun ls hl => ?_)
                    have inn : ∀ (k2 k9 : Nat), k9 + k2 = kp → (∀ q, q < k9 → ¬ keq wn (fun i => ks1 (8 * q + i)) (fun i => ks1 (8 * pp + i))) → ∀ (ls : Array Slot), lv_has ls 6 [(5, .int (nI k9)), (4, .int (-1)), (3, .int (nI pp)), (2, .int (nI kp)), (0, .ref (b 0))] → W p l e (headSpec (Cond.code yM_roll bM_roll 6 (some .int) :: wAll) { frames := 3, cells := 0, slots := 0, locals := 128 }).room s m ([.ref (b 0), .int (nI j)] : List Value).toArray below meth c H locs 0 0 (MQ below (va_Qi (fun (r9 : Int32) (u9 : TB) => r9 = if 0 ≤ nI j ∧ nI j < nI wn then nI u9.1 else 0) (fun (u9 : TB) (t9 : State) => ((0 ≤ nI j ∧ nI j < nI wn) → rollR wn mn (nI j).toNatClampNeg T u9 ∧ atM dC dI A b d 0 wn mn fk fa u9 t9) ∧ (¬ (0 ≤ nI j ∧ nI j < nI wn) → atM dC dI A b d 1 wn mn fk fa T t9)) A) ([.ref (b 0), .int (nI j)] : List Value).toArray s 0 0 A) (F0 m 77 ls []) := by
                      intro k2
                      induction k2 with
                      | zero =>
                        intro k9 hk9 hno9 ls hl
                        refine lv_iload hx hb dM_roll_77 (lv_at hl 0 rfl) ?_
                        refine lv_iload_n hx hb dM_roll_79 rfl (lv_at hl 3 rfl) ?_
                        refine lv_icmp_ge (tgt := 112) hx hb dM_roll_80 (by decide) (fun h5 => ?_) (fun h5 => ?_)
                        · skip
                          refine lv_iload hx hb dM_roll_112 (lv_at hl 1 rfl) ?_
                          refine lv_if_lt (tgt := 127) hx hb dM_roll_114 (by decide) (fun h6 => ?_) (fun h6 => ?_)
                          · skip
                            refine lv_aload_n hx hb dM_roll_127 rfl (lv_at hl 4 rfl) ?_
                            refine lv_iload_n hx hb dM_roll_128 rfl (lv_at hl 2 rfl) ?_
                            refine lv_iload_n hx hb dM_roll_129 rfl (lv_at hl 3 rfl) ?_
                            have hPc := hP
                            have hDc := hD
                            have hKc := hK
                            have hFc := va_free (wc := (wM b d 0 (nI wn) (nI mn) (nI T.1) ks1 ct1 sm1 le1 gr1 fk fa)) hD hS hA [0, 1, 2, 3, 4, 5, 6, 7] rfl
                            refine va_callv (va_runV (As := [.int (nI pp), .int (nI kp)]) (rest := []) ⟨hx, hb, hml, hown, hta⟩ (c_copy l dC dI b d 0 (nI wn) (nI mn) (nI T.1) ks1 ct1 sm1 le1 gr1 fk fa pp kp (by omega) (by omega) H.size) (cwV 2 hta (gV w345 w347 sM_copy w2 w348) rfl rfl rfl (by decide +kernel) ⟨Nat.le_of_ble_eq_true rfl, Nat.le_of_ble_eq_true rfl⟩) ⟨gb_W, va_recv hKc hPc (ci := 1) (q0 := 0) rfl rfl, fun U hU hW => ⟨rfl, by rw [hU], by rw [hU]; exact hPc, va_K.moved hW.alike hKc, hDc.weaken (fun _ _ _ _ => trivial)⟩⟩ rfl rfl hl.1 rfl (lv_room (Nat.le_of_ble_eq_true rfl)) dM_roll_130 ⟨Nat.le_of_ble_eq_true rfl, Nat.le_of_ble_eq_true rfl⟩) hS (fun q _ h => hFc q h) hFc (fun u t H1 locs ht hvm hw hB hz1 hk1 hS => ?_)
                            obtain ⟨hP1, hK1, hD1⟩ := hB
                            rw [ht] at hP1
                            obtain ⟨hP, hD⟩ := va_join (wr := []) (w1 := (wM b d 0 (nI wn) (nI mn) (nI T.1) (upToI (fun m _ => ks1 (8 * pp + m)) (8 * kp) ks1 8) (vp_updL ct1 kp (ct1 pp)) (upTo (fun m _ => sm1 (8 * pp + m)) (8 * kp) sm1 8) (upTo (fun m _ => le1 (8 * pp + m)) (8 * kp) le1 8) (upTo (fun m _ => gr1 (8 * pp + m)) (8 * kp) gr1 8) fk fa)) hP hD [0, 1, 2, 3, 4, 5, 6, 7] [] rfl rfl (by decide) (by decide) hk1 hFc hP1 hD1
                            generalize H1 = H at hP hS ⊢
                            have hP : va_P (dC, dI) classes (wM b d 0 (nI wn) (nI mn) (nI T.1) (upToI (fun m _ => ks1 (8 * pp + m)) (8 * kp) ks1 8) (vp_updL ct1 kp (ct1 pp)) (upTo (fun m _ => sm1 (8 * pp + m)) (8 * kp) sm1 8) (upTo (fun m _ => le1 (8 * pp + m)) (8 * kp) le1 8) (upTo (fun m _ => gr1 (8 * pp + m)) (8 * kp) gr1 8) fk fa) H := hP
                            have hD : va_D A (wM b d 0 (nI wn) (nI mn) (nI T.1) (upToI (fun m _ => ks1 (8 * pp + m)) (8 * kp) ks1 8) (vp_updL ct1 kp (ct1 pp)) (upTo (fun m _ => sm1 (8 * pp + m)) (8 * kp) sm1 8) (upTo (fun m _ => le1 (8 * pp + m)) (8 * kp) le1 8) (upTo (fun m _ => gr1 (8 * pp + m)) (8 * kp) gr1 8) fk fa) := hD
                            refine lv_iinc (v := (nI (kp + 1))) (lv' := [(2, .int (nI (kp + 1))), (5, .int (nI k9)), (4, .int (-1)), (3, .int (nI pp)), (0, .ref (b 0))]) hx hb dM_roll_133 hl (k := 3) rfl (nI_1 _) (by decide) rfl (fun ls hl => ?_)
                            refine lv_iinc (v := (nI (pp + 1))) (lv' := [(3, .int (nI (pp + 1))), (2, .int (nI (kp + 1))), (5, .int (nI k9)), (4, .int (-1)), (0, .ref (b 0))]) hx hb dM_roll_136 hl (k := 3) rfl (nI_1 _) (by decide) rfl (fun ls hl => ?_)
                            refine lv_goto (tgt := 63) hx hb dM_roll_139 (by decide) ?_
                            have hl := lv_sub hl [0, 1, 4] rfl
                            have hl : lv_has ls 6 [(3, .int (nI (pp + 1))), (2, .int (nI (kp + 1))), (0, .ref (b 0))] := hl
                            exact ih2 (pp + 1) (kp + 1) _ _ _ _ _ (by omega) (dd_new hI (by omega) (fun q hq => hno9 q (by omega))) H locs hP hD hS ls hl
                          · skip
                            exact absurd (by decide) h6
                        · skip
                          exact absurd (nI_le (by omega) (by omega)) h5
                      | succ k2 ih3 =>
                        intro k9 hk9 hno9 ls hl
                        refine lv_iload hx hb dM_roll_77 (lv_at hl 0 rfl) ?_
                        refine lv_iload_n hx hb dM_roll_79 rfl (lv_at hl 3 rfl) ?_
                        refine lv_icmp_ge (tgt := 112) hx hb dM_roll_80 (by decide) (fun h5 => ?_) (fun h5 => ?_)
                        · skip
                          exact absurd h5 (nI_ge (a := k9) (by omega) (by omega))
                        · skip
                          refine lv_iload hx hb dM_roll_83 (lv_at hl 1 rfl) ?_
                          refine lv_if_ge (tgt := 112) hx hb dM_roll_85 (by decide) (fun h6 => ?_) (fun h6 => ?_)
                          · skip
                            exact absurd h6 (by decide)
                          · skip
                            refine lv_aload_n hx hb dM_roll_88 rfl (lv_at hl 4 rfl) ?_
                            refine lv_iload hx hb dM_roll_89 (lv_at hl 0 rfl) ?_
                            refine lv_iload_n hx hb dM_roll_91 rfl (lv_at hl 2 rfl) ?_
                            refine gi_callR (v := .int (lx (fun i => ks1 (8 * k9 + i)) (fun i => ks1 (8 * pp + i)) wn 0)) (W.runV (As := [.int (nI k9), .int (nI pp)]) (rest := []) ⟨hx, hb, hml, hown, hta⟩ (c_compared l dC dI b d wn 0 (nI mn) (nI T.1) ks1 ct1 sm1 le1 gr1 fk fa k9 pp hwn (by omega) (by omega)) (cwV 2 hta (gV w358 w360 sM_compared w2 w361) rfl rfl rfl (by decide +kernel) ⟨Nat.le_of_ble_eq_true rfl, Nat.le_of_ble_eq_true rfl⟩) ⟨gb_R, va_recv hK hP (ci := 1) (q0 := 0) rfl rfl, fun U hU hW => ⟨rfl, by rw [hU]; exact hP, va_K.moved hW.alike hK⟩⟩ rfl rfl hl.1 rfl (lv_room (Nat.le_of_ble_eq_true rfl)) dM_roll_92 ⟨Nat.le_of_ble_eq_true rfl, Nat.le_of_ble_eq_true rfl⟩) ?_
                            refine lv_if_ne (tgt := 103) hx hb dM_roll_95 (by decide) (fun h7 => ?_) (fun h7 => ?_)
                            · skip
                              refine lv_iconst (v := (-1)) hx hb dM_roll_103 (by decide) ?_
                              refine lv_istore (lv' := [(4, .int (-1)), (5, .int (nI k9)), (3, .int (nI pp)), (2, .int (nI kp)), (0, .ref (b 0))]) hx hb dM_roll_104 hl (by decide) rfl (fun ls hl => ?_)
                              refine lv_iinc (v := (nI (k9 + 1))) (lv' := [(5, .int (nI (k9 + 1))), (4, .int (-1)), (3, .int (nI pp)), (2, .int (nI kp)), (0, .ref (b 0))]) hx hb dM_roll_106 hl (k := 1) rfl (nI_1 _) (by decide) rfl (fun ls hl => ?_)
                              refine lv_goto (tgt := 77) hx hb dM_roll_109 (by decide) ?_
                              have hl := lv_sub hl [0, 1, 2, 3, 4] rfl
                              have hl : lv_has ls 6 [(5, .int (nI (k9 + 1))), (4, .int (-1)), (3, .int (nI pp)), (2, .int (nI kp)), (0, .ref (b 0))] := hl
                              refine ih3 (k9 + 1) (by omega) (fun q hq => ?_) ls hl
                              rcases Nat.lt_or_ge q k9 with z | z
                              · exact hno9 q z
                              · have e : q = k9 := by omega
                                subst e
                                exact fun z => h7 (lx_eq.mpr z)
                            · skip
                              refine lv_iload hx hb dM_roll_98 (lv_at hl 0 rfl) ?_
                              refine lv_goto (tgt := 104) hx hb dM_roll_100 (by decide) ?_
                              refine lv_istore (lv' := [(4, .int (nI k9)), (5, .int (nI k9)), (3, .int (nI pp)), (2, .int (nI kp)), (0, .ref (b 0))]) hx hb dM_roll_104 hl (by decide) rfl (fun ls hl => ?_)
                              refine lv_iinc (v := (nI (k9 + 1))) (lv' := [(5, .int (nI (k9 + 1))), (4, .int (nI k9)), (3, .int (nI pp)), (2, .int (nI kp)), (0, .ref (b 0))]) hx hb dM_roll_106 hl (k := 1) rfl (nI_1 _) (by decide) rfl (fun ls hl => ?_)
                              refine lv_goto (tgt := 77) hx hb dM_roll_109 (by decide) ?_
                              have hit : ∀ (ls : Array Slot), lv_has ls 6 [(4, .int (nI k9)), (3, .int (nI pp)), (2, .int (nI kp)), (0, .ref (b 0))] → W p l e (headSpec (Cond.code yM_roll bM_roll 6 (some .int) :: wAll) { frames := 3, cells := 0, slots := 0, locals := 128 }).room s m ([.ref (b 0), .int (nI j)] : List Value).toArray below meth c H locs 0 0 (MQ below (va_Qi (fun (r9 : Int32) (u9 : TB) => r9 = if 0 ≤ nI j ∧ nI j < nI wn then nI u9.1 else 0) (fun (u9 : TB) (t9 : State) => ((0 ≤ nI j ∧ nI j < nI wn) → rollR wn mn (nI j).toNatClampNeg T u9 ∧ atM dC dI A b d 0 wn mn fk fa u9 t9) ∧ (¬ (0 ≤ nI j ∧ nI j < nI wn) → atM dC dI A b d 1 wn mn fk fa T t9)) A) ([.ref (b 0), .int (nI j)] : List Value).toArray s 0 0 A) (F0 m 112 ls []) := by
                                intro ls hl
                                refine lv_iload hx hb dM_roll_112 (lv_at hl 0 rfl) ?_
                                refine lv_if_lt (tgt := 127) hx hb dM_roll_114 (by decide) (fun h8 => ?_) (fun h8 => ?_)
                                · skip
                                  exact absurd h8 (nI_pos (by omega))
                                · skip
                                  refine lv_aload_n hx hb dM_roll_117 rfl (lv_at hl 3 rfl) ?_
                                  refine lv_iload_n hx hb dM_roll_118 rfl (lv_at hl 1 rfl) ?_
                                  refine lv_iload hx hb dM_roll_119 (lv_at hl 0 rfl) ?_
                                  have hPc := hP
                                  have hDc := hD
                                  have hKc := hK
                                  have hFc := va_free (wc := (wM b d 0 (nI wn) (nI mn) (nI T.1) ks1 ct1 sm1 le1 gr1 fk fa)) hD hS hA [0, 1, 2, 3, 4, 5, 6, 7] rfl
                                  refine va_callv (va_runV (As := [.int (nI pp), .int (nI k9)]) (rest := []) ⟨hx, hb, hml, hown, hta⟩ (c_join l dC dI b d mn 0 (nI wn) (nI T.1) ks1 ct1 sm1 le1 gr1 fk fa pp k9 (by omega) (by omega) (by omega) hmn H.size) (cwV 2 hta (gV w362 w364 sM_join w2 w365) rfl rfl rfl (by decide +kernel) ⟨Nat.le_of_ble_eq_true rfl, Nat.le_of_ble_eq_true rfl⟩) ⟨gb_W, va_recv hKc hPc (ci := 1) (q0 := 0) rfl rfl, fun U hU hW => ⟨rfl, by rw [hU], by rw [hU]; exact hPc, va_K.moved hW.alike hKc, hDc.weaken (fun _ _ _ _ => trivial)⟩⟩ rfl rfl hl.1 rfl (lv_room (Nat.le_of_ble_eq_true rfl)) dM_roll_121 ⟨Nat.le_of_ble_eq_true rfl, Nat.le_of_ble_eq_true rfl⟩) hS (fun q _ h => hFc q h) hFc (fun u t H1 locs ht hvm hw hB hz1 hk1 hS => ?_)
                                  obtain ⟨hP1, hK1, hD1⟩ := hB
                                  rw [ht] at hP1
                                  obtain ⟨hP, hD⟩ := va_join (wr := []) (w1 := (wM b d 0 (nI wn) (nI mn) (nI T.1) ks1 (vp_updL ct1 k9 (ct1 k9 + ct1 pp)) (upTo (fun m x => x + sm1 (8 * pp + m)) (8 * k9) sm1 mn) (upTo (fun m x => if le1 (8 * pp + m) < x then le1 (8 * pp + m) else x) (8 * k9) le1 mn) (upTo (fun m x => if x < gr1 (8 * pp + m) then gr1 (8 * pp + m) else x) (8 * k9) gr1 mn) fk fa)) hP hD [0, 1, 2, 3, 4, 5, 6, 7] [] rfl rfl (by decide) (by decide) hk1 hFc hP1 hD1
                                  generalize H1 = H at hP hS ⊢
                                  have hP : va_P (dC, dI) classes (wM b d 0 (nI wn) (nI mn) (nI T.1) ks1 (vp_updL ct1 k9 (ct1 k9 + ct1 pp)) (upTo (fun m x => x + sm1 (8 * pp + m)) (8 * k9) sm1 mn) (upTo (fun m x => if le1 (8 * pp + m) < x then le1 (8 * pp + m) else x) (8 * k9) le1 mn) (upTo (fun m x => if x < gr1 (8 * pp + m) then gr1 (8 * pp + m) else x) (8 * k9) gr1 mn) fk fa) H := hP
                                  have hD : va_D A (wM b d 0 (nI wn) (nI mn) (nI T.1) ks1 (vp_updL ct1 k9 (ct1 k9 + ct1 pp)) (upTo (fun m x => x + sm1 (8 * pp + m)) (8 * k9) sm1 mn) (upTo (fun m x => if le1 (8 * pp + m) < x then le1 (8 * pp + m) else x) (8 * k9) le1 mn) (upTo (fun m x => if x < gr1 (8 * pp + m) then gr1 (8 * pp + m) else x) (8 * k9) gr1 mn) fk fa) := hD
                                  refine lv_goto (tgt := 136) hx hb dM_roll_124 (by decide) ?_
                                  refine lv_iinc (v := (nI (pp + 1))) (lv' := [(3, .int (nI (pp + 1))), (4, .int (nI k9)), (2, .int (nI kp)), (0, .ref (b 0))]) hx hb dM_roll_136 hl (k := 1) rfl (nI_1 _) (by decide) rfl (fun ls hl => ?_)
                                  refine lv_goto (tgt := 63) hx hb dM_roll_139 (by decide) ?_
                                  have hl := lv_sub hl [0, 2, 3] rfl
                                  have hl : lv_has ls 6 [(3, .int (nI (pp + 1))), (2, .int (nI kp)), (0, .ref (b 0))] := hl
                                  exact ih2 (pp + 1) kp _ _ _ _ _ (by omega) (dd_hit hI (by omega) (by omega) (lx_eq.mp h7)) H locs hP hD hS ls hl
                              refine lv_iload hx hb dM_roll_77 (lv_at hl 0 rfl) ?_
                              refine lv_iload_n hx hb dM_roll_79 rfl (lv_at hl 3 rfl) ?_
                              refine lv_icmp_ge (tgt := 112) hx hb dM_roll_80 (by decide) (fun h9 => ?_) (fun h9 => ?_)
                              · skip
                                have hl := lv_sub hl [1, 2, 3, 4] rfl
                                have hl : lv_has ls 6 [(4, .int (nI k9)), (3, .int (nI pp)), (2, .int (nI kp)), (0, .ref (b 0))] := hl
                                exact hit ls hl
                              · skip
                                refine lv_iload hx hb dM_roll_83 (lv_at hl 1 rfl) ?_
                                refine lv_if_ge (tgt := 112) hx hb dM_roll_85 (by decide) (fun h8 => ?_) (fun h8 => ?_)
                                · skip
                                  have hl := lv_sub hl [1, 2, 3, 4] rfl
                                  have hl : lv_has ls 6 [(4, .int (nI k9)), (3, .int (nI pp)), (2, .int (nI kp)), (0, .ref (b 0))] := hl
                                  exact hit ls hl
                                · skip
                                  exact absurd (nI_pos' (by omega)) h8
                    have hl := lv_sub hl [0, 1, 2, 3, 4] rfl
                    have hl : lv_has ls 6 [(5, .int (nI 0)), (4, .int (-1)), (3, .int (nI pp)), (2, .int (nI kp)), (0, .ref (b 0))] := hl
                    exact inn kp 0 (by omega) (fun q hq => absurd hq (Nat.not_lt_zero q)) ls hl
              have hl := lv_sub hl [0, 1, 2] rfl
              have hl : lv_has ls 6 [(3, .int (nI 0)), (2, .int (nI 0)), (0, .ref (b 0))] := hl
              exact dd T.1 0 0 _ _ _ _ _ (by omega) (dd_0 hn hmn hwn) H locs hP hD hS ls hl
            · skip
              exact absurd (nI_le (by omega) (by omega)) h3
          | succ kk ih =>
            intro pp hpp H locs hP hD hS ls hl
            refine lv_iload_n hx hb dM_roll_32 rfl (lv_at hl 0 rfl) ?_
            refine lv_aload_n hx hb dM_roll_33 rfl (lv_at hl 1 rfl) ?_
            refine va_get (D := (dC, dI)) (ci := 1) (v := .int (nI T.1)) (C := "GroupRowsModel") (T := FM) (N := 11) hx hb hta inM hown hK hP 0 rfl rfl 3 (by decide) (hta _ w281) (fun _ h9 => h9) rfl dM_roll_34 ?_
            refine lv_icmp_ge (tgt := 59) hx hb dM_roll_37 (by decide) (fun h3 => ?_) (fun h3 => ?_)
            · skip
              exact absurd h3 (nI_ge (a := pp) (by omega) (by omega))
            · skip
              refine lv_aload_n hx hb dM_roll_40 rfl (lv_at hl 1 rfl) ?_
              refine va_get (D := (dC, dI)) (ci := 1) (v := .ref (b 1)) (C := "GroupRowsModel") (T := FM) (N := 11) hx hb hta inM hown hK hP 0 rfl rfl 4 (by decide) (hta _ w282) (fun _ h9 => h9) rfl dM_roll_41 ?_
              refine lv_bipush (v := 8) hx hb dM_roll_44 (by decide) ?_
              refine lv_iload_n hx hb dM_roll_46 rfl (lv_at hl 0 rfl) ?_
              refine lv_imul hx hb dM_roll_47 ?_
              refine gi_as (y := nI (8 * pp)) (gi_8mul _) ?_
              refine lv_iload_n hx hb dM_roll_48 rfl (lv_at hl 2 rfl) ?_
              refine lv_iadd hx hb dM_roll_49 ?_
              refine gi_as (y := nI ((8 * pp) + j)) (nI_add _ _) ?_
              refine lv_ldc (v := 2147483647) hx hb hown (hta _ w357) dM_roll_50 ?_
              refine gi_iast hx hb hK hP hD hS 1 0 rfl rfl (k := ((8 * pp) + j)) (by omega) (by decide) dM_roll_52 (fun H locs hP hD hS => ?_)
              have hP : va_P (dC, dI) classes (wM b d 0 (nI wn) (nI mn) (nI T.1) (upd (rolA (fun p => p) j ks2 pp) ((8 * pp) + j) 2147483647) ct2 sm2 le2 gr2 fk fa) H := hP
              have hD : va_D A (wM b d 0 (nI wn) (nI mn) (nI T.1) (upd (rolA (fun p => p) j ks2 pp) ((8 * pp) + j) 2147483647) ct2 sm2 le2 gr2 fk fa) := hD
              refine lv_iinc (v := (nI (pp + 1))) (lv' := [(2, .int (nI (pp + 1))), (0, .ref (b 0)), (1, .int (nI j))]) hx hb dM_roll_53 hl (k := 0) rfl (nI_1 _) (by decide) rfl (fun ls hl => ?_)
              refine lv_goto (tgt := 32) hx hb dM_roll_56 (by decide) ?_
              have hl := lv_sub hl [0, 1, 2] rfl
              have hl : lv_has ls 6 [(2, .int (nI (pp + 1))), (0, .ref (b 0)), (1, .int (nI j))] := hl
              exact ih (pp + 1) (by omega) H locs hP hD hS ls hl
        have hl := lv_sub hl [0, 1, 2] rfl
        have hl : lv_has ls 6 [(2, .int (nI 0)), (0, .ref (b 0)), (1, .int (nI j))] := hl
        exact loop T.1 0 (by omega) H locs hP hD hS ls hl
    · skip
      refine lv_iconst (v := 1) hx hb dM_roll_13 (by decide) ?_
      refine lv_goto (tgt := 18) hx hb dM_roll_14 (by decide) ?_
      refine va_put (D := (dC, dI)) (ci := 1) (v := .int 1) (ty := .int) (C := "GroupRowsModel") (T := FM) (N := 11) hx hb hta inM tM tMok nM hown hK hP hD hS 0 rfl rfl 0 (by decide) (hta _ w278) (fun _ h9 => h9) rfl (by decide +kernel) rfl rfl (Nat.le_of_ble_eq_true rfl) dM_roll_18 (fun H locs hP hD hS => ?_)
      have hP : va_P (dC, dI) classes (wM b d 1 (nI wn) (nI mn) (nI T.1) ks2 ct2 sm2 le2 gr2 fk fa) H := hP
      have hD : va_D A (wM b d 1 (nI wn) (nI mn) (nI T.1) ks2 ct2 sm2 le2 gr2 fk fa) := hD
      refine lv_aload_n hx hb dM_roll_21 rfl (lv_at hl 0 rfl) ?_
      refine va_get (D := (dC, dI)) (ci := 1) (v := .int 1) (C := "GroupRowsModel") (T := FM) (N := 11) hx hb hta inM hown hK hP 0 rfl rfl 0 (by decide) (hta _ w278) (fun _ h9 => h9) rfl dM_roll_22 ?_
      refine lv_if_le (tgt := 30) hx hb dM_roll_25 (by decide) (fun hz => ?_) (fun hz => ?_)
      · skip
        exact absurd hz (by decide)
      · skip
        refine lv_iconst (v := 0) hx hb dM_roll_28 (by decide) ?_
        exact W.iret (v := 0) hx hb hr (fun t9 ht9 hW9 => ⟨⟨0, T, rfl, (if_neg (fun q => h2 q.2)).symm, ⟨fun h9 => absurd h9 (fun q => h2 q.2), fun _ => ⟨_, _, _, _, _, hrep, by rw [ht9]; exact hP, va_K.moved hW9.alike hK, hD⟩⟩⟩, hS.F ht9⟩) hS.2.2 dM_roll_29
set_option maxHeartbeats 4000000 in
set_option maxRecDepth 100000 in
theorem c_Mspread (l : Launch) (dC : Nat → ClassId) (dI : Nat → Nat → Nat) (b : Nat → Nat) (d : Nat → ClassId) (cd : Int32) (wn mn : Nat) (fk : Nat → Int32) (fa : Nat → Int64) (T : TB) (ks2 : Nat → Int32) (ct2 sm2 le2 gr2 : Nat → Int64) (hrep : repT (fun p => p) wn mn T ks2 ct2 sm2 le2 gr2) (nn i st : Int32) (sz : Nat)  : Met l yM_spread (Cond.code yM_spread bM_spread 6 (some .int) :: wAll) { frames := 3, cells := 0, slots := 0, locals := 128 } (va_Pc [.ref (b 0), .int nn, .int i, .int st] (fun U => U.heap.size = sz ∧ va_P (dC, dI) classes (wM b d cd (nI wn) (nI mn) (nI T.1) ks2 ct2 sm2 le2 gr2 fk fa) U.heap ∧ va_K (dC, dI) classes (kM d) U ∧ va_D (fun _ => True) (wM b d cd (nI wn) (nI mn) (nI T.1) ks2 ct2 sm2 le2 gr2 fk fa))) (va_Qi (fun (r9 : Int32) (_ : Unit) => r9 = (if (0 ≤ i ∧ i < nI wn) ∧ 1 ≤ nn ∧ nn ≤ 5000 then nI (sprT wn mn i.toNatClampNeg st nn.toNatClampNeg 0 fk fa T).1 else 0)) (fun (_ : Unit) (t9 : State) => (((0 ≤ i ∧ i < nI wn) ∧ 1 ≤ nn ∧ nn ≤ 5000) → atM dC dI (va_A (wM b d cd (nI wn) (nI mn) (nI T.1) ks2 ct2 sm2 le2 gr2 fk fa) sz) b d 0 wn mn (sprT wn mn i.toNatClampNeg st nn.toNatClampNeg 0 fk fa T).2.1 (sprT wn mn i.toNatClampNeg st nn.toNatClampNeg 0 fk fa T).2.2.1 (sprT wn mn i.toNatClampNeg st nn.toNatClampNeg 0 fk fa T).2.2.2 t9) ∧ (¬ ((0 ≤ i ∧ i < nI wn) ∧ 1 ≤ nn ∧ nn ≤ 5000) → atM dC dI (va_A (wM b d cd (nI wn) (nI mn) (nI T.1) ks2 ct2 sm2 le2 gr2 fk fa) sz) b d 1 wn mn fk fa T t9)) (va_A (wM b d cd (nI wn) (nI mn) (nI T.1) ks2 ct2 sm2 le2 gr2 fk fa) sz)) 0 0 (va_A (wM b d cd (nI wn) (nI mn) (nI T.1) ks2 ct2 sm2 le2 gr2 fk fa) sz) := by
  refine Met.ofW (cc := bM_spread) (maxL := 6) (ret := (some .int)) (by decide) rfl ?_
  intro p e s m args below meth c s₁ B hml hv
  obtain ⟨rfl, hsz, hP, hK, hD0⟩ := hv
  have hx := B.exec
  have hb := B.bytes
  have hr := B.returns
  have hta : ∀ w ∈ wAll, w.before ([.ref (b 0), .int nn, .int i, .int st] : List Value).toArray s = true := fun w h => atoms_spec (ws := (Cond.code yM_spread bM_spread 6 (some .int) :: wAll)) B.pre w (List.mem_cons_of_mem _ h)
  have hown : s.vm.findClass "GroupRowsModel" = some m.cls := findClass_of_methodNamed B.named
  have hlocks := B.notSynchronized
  subst hsz
  have hD := hD0.self (sz := s.heap.size)
  generalize hAe : va_A (wM b d cd (nI wn) (nI mn) (nI T.1) ks2 ct2 sm2 le2 gr2 fk fa) s.heap.size = A at hD ⊢
  have hA : ∀ q : Nat, s.heap.size ≤ q → A q := fun q h => by rw [← hAe]; exact Or.inr h
  have hS : va_S A s.heap s.heap [] := va_S.rf
  have hP : va_P (dC, dI) classes (wM b d cd (nI wn) (nI mn) (nI T.1) ks2 ct2 sm2 le2 gr2 fk fa) s.heap := hP
  have hl := lv_entry ([.ref (b 0), .int nn, .int i, .int st]) (n := 6) (Nat.le_of_ble_eq_true rfl)
  rw [lg_entry_eq]
  generalize (lg_sl ([.ref (b 0), .int nn, .int i, .int st]) ++ List.replicate (6 - (lg_sl ([.ref (b 0), .int nn, .int i, .int st])).length) Slot.unset).toArray = ls at hl ⊢
  have hl : lv_has ls 6 [(0, .ref (b 0)), (1, .int nn), (2, .int i), (3, .int st)] := hl
  obtain ⟨⟨hwn, hmn1, hmn, hn⟩, hk9, hc9, hv9, hs9⟩ := id hrep
  refine lv_aload_n hx hb dM_spread_0 rfl (lv_at hl 0 rfl) ?_
  refine lv_iload_n hx hb dM_spread_1 rfl (lv_at hl 2 rfl) ?_
  refine lv_if_lt (tgt := 25) hx hb dM_spread_2 (by decide) (fun h1 => ?_) (fun h1 => ?_)
  · skip
    refine lv_iconst (v := 1) hx hb dM_spread_25 (by decide) ?_
    refine lv_goto (tgt := 30) hx hb dM_spread_26 (by decide) ?_
    refine va_put (D := (dC, dI)) (ci := 1) (v := .int 1) (ty := .int) (C := "GroupRowsModel") (T := FM) (N := 11) hx hb hta inM tM tMok nM hown hK hP hD hS 0 rfl rfl 0 (by decide) (hta _ w278) (fun _ h9 => h9) rfl (by decide +kernel) rfl rfl (Nat.le_of_ble_eq_true rfl) dM_spread_30 (fun H locs hP hD hS => ?_)
    have hP : va_P (dC, dI) classes (wM b d 1 (nI wn) (nI mn) (nI T.1) ks2 ct2 sm2 le2 gr2 fk fa) H := hP
    have hD : va_D A (wM b d 1 (nI wn) (nI mn) (nI T.1) ks2 ct2 sm2 le2 gr2 fk fa) := hD
    refine lv_aload_n hx hb dM_spread_33 rfl (lv_at hl 0 rfl) ?_
    refine va_get (D := (dC, dI)) (ci := 1) (v := .int 1) (C := "GroupRowsModel") (T := FM) (N := 11) hx hb hta inM hown hK hP 0 rfl rfl 0 (by decide) (hta _ w278) (fun _ h9 => h9) rfl dM_spread_34 ?_
    refine lv_if_le (tgt := 42) hx hb dM_spread_37 (by decide) (fun hz => ?_) (fun hz => ?_)
    · skip
      exact absurd hz (by decide)
    · skip
      refine lv_iconst (v := 0) hx hb dM_spread_40 (by decide) ?_
      exact W.iret (v := 0) hx hb hr (fun t9 ht9 hW9 => ⟨⟨0, (), rfl, (if_neg (fun q => absurd q.1.1 (Int32.not_le.mpr h1))).symm, ⟨fun h9 => absurd h9 (fun q => absurd q.1.1 (Int32.not_le.mpr h1)), fun _ => ⟨_, _, _, _, _, hrep, by rw [ht9]; exact hP, va_K.moved hW9.alike hK, hD⟩⟩⟩, hS.F ht9⟩) hS.2.2 dM_spread_41
  · skip
    refine lv_iload_n hx hb dM_spread_5 rfl (lv_at hl 2 rfl) ?_
    refine lv_aload_n hx hb dM_spread_6 rfl (lv_at hl 0 rfl) ?_
    refine va_get (D := (dC, dI)) (ci := 1) (v := .int (nI wn)) (C := "GroupRowsModel") (T := FM) (N := 11) hx hb hta inM hown hK hP 0 rfl rfl 1 (by decide) (hta _ w279) (fun _ h9 => h9) rfl dM_spread_7 ?_
    refine lv_icmp_ge (tgt := 25) hx hb dM_spread_10 (by decide) (fun h2 => ?_) (fun h2 => ?_)
    · skip
      refine lv_iconst (v := 1) hx hb dM_spread_25 (by decide) ?_
      refine lv_goto (tgt := 30) hx hb dM_spread_26 (by decide) ?_
      refine va_put (D := (dC, dI)) (ci := 1) (v := .int 1) (ty := .int) (C := "GroupRowsModel") (T := FM) (N := 11) hx hb hta inM tM tMok nM hown hK hP hD hS 0 rfl rfl 0 (by decide) (hta _ w278) (fun _ h9 => h9) rfl (by decide +kernel) rfl rfl (Nat.le_of_ble_eq_true rfl) dM_spread_30 (fun H locs hP hD hS => ?_)
      have hP : va_P (dC, dI) classes (wM b d 1 (nI wn) (nI mn) (nI T.1) ks2 ct2 sm2 le2 gr2 fk fa) H := hP
      have hD : va_D A (wM b d 1 (nI wn) (nI mn) (nI T.1) ks2 ct2 sm2 le2 gr2 fk fa) := hD
      refine lv_aload_n hx hb dM_spread_33 rfl (lv_at hl 0 rfl) ?_
      refine va_get (D := (dC, dI)) (ci := 1) (v := .int 1) (C := "GroupRowsModel") (T := FM) (N := 11) hx hb hta inM hown hK hP 0 rfl rfl 0 (by decide) (hta _ w278) (fun _ h9 => h9) rfl dM_spread_34 ?_
      refine lv_if_le (tgt := 42) hx hb dM_spread_37 (by decide) (fun hz => ?_) (fun hz => ?_)
      · skip
        exact absurd hz (by decide)
      · skip
        refine lv_iconst (v := 0) hx hb dM_spread_40 (by decide) ?_
        exact W.iret (v := 0) hx hb hr (fun t9 ht9 hW9 => ⟨⟨0, (), rfl, (if_neg (fun q => absurd q.1.2 (Int32.not_lt.mpr h2))).symm, ⟨fun h9 => absurd h9 (fun q => absurd q.1.2 (Int32.not_lt.mpr h2)), fun _ => ⟨_, _, _, _, _, hrep, by rw [ht9]; exact hP, va_K.moved hW9.alike hK, hD⟩⟩⟩, hS.F ht9⟩) hS.2.2 dM_spread_41
    · skip
      refine lv_iload_n hx hb dM_spread_13 rfl (lv_at hl 1 rfl) ?_
      refine lv_iconst (v := 1) hx hb dM_spread_14 (by decide) ?_
      refine lv_icmp_lt (tgt := 25) hx hb dM_spread_15 (by decide) (fun h3 => ?_) (fun h3 => ?_)
      · skip
        refine lv_iconst (v := 1) hx hb dM_spread_25 (by decide) ?_
        refine lv_goto (tgt := 30) hx hb dM_spread_26 (by decide) ?_
        refine va_put (D := (dC, dI)) (ci := 1) (v := .int 1) (ty := .int) (C := "GroupRowsModel") (T := FM) (N := 11) hx hb hta inM tM tMok nM hown hK hP hD hS 0 rfl rfl 0 (by decide) (hta _ w278) (fun _ h9 => h9) rfl (by decide +kernel) rfl rfl (Nat.le_of_ble_eq_true rfl) dM_spread_30 (fun H locs hP hD hS => ?_)
        have hP : va_P (dC, dI) classes (wM b d 1 (nI wn) (nI mn) (nI T.1) ks2 ct2 sm2 le2 gr2 fk fa) H := hP
        have hD : va_D A (wM b d 1 (nI wn) (nI mn) (nI T.1) ks2 ct2 sm2 le2 gr2 fk fa) := hD
        refine lv_aload_n hx hb dM_spread_33 rfl (lv_at hl 0 rfl) ?_
        refine va_get (D := (dC, dI)) (ci := 1) (v := .int 1) (C := "GroupRowsModel") (T := FM) (N := 11) hx hb hta inM hown hK hP 0 rfl rfl 0 (by decide) (hta _ w278) (fun _ h9 => h9) rfl dM_spread_34 ?_
        refine lv_if_le (tgt := 42) hx hb dM_spread_37 (by decide) (fun hz => ?_) (fun hz => ?_)
        · skip
          exact absurd hz (by decide)
        · skip
          refine lv_iconst (v := 0) hx hb dM_spread_40 (by decide) ?_
          exact W.iret (v := 0) hx hb hr (fun t9 ht9 hW9 => ⟨⟨0, (), rfl, (if_neg (fun q => absurd q.2.1 (Int32.not_le.mpr h3))).symm, ⟨fun h9 => absurd h9 (fun q => absurd q.2.1 (Int32.not_le.mpr h3)), fun _ => ⟨_, _, _, _, _, hrep, by rw [ht9]; exact hP, va_K.moved hW9.alike hK, hD⟩⟩⟩, hS.F ht9⟩) hS.2.2 dM_spread_41
      · skip
        refine lv_iload_n hx hb dM_spread_18 rfl (lv_at hl 1 rfl) ?_
        refine lv_sipush (v := 5000) hx hb dM_spread_19 (by decide) ?_
        refine lv_icmp_le (tgt := 29) hx hb dM_spread_22 (by decide) (fun h4 => ?_) (fun h4 => ?_)
        · skip
          refine lv_iconst (v := 0) hx hb dM_spread_29 (by decide) ?_
          refine va_put (D := (dC, dI)) (ci := 1) (v := .int 0) (ty := .int) (C := "GroupRowsModel") (T := FM) (N := 11) hx hb hta inM tM tMok nM hown hK hP hD hS 0 rfl rfl 0 (by decide) (hta _ w278) (fun _ h9 => h9) rfl (by decide +kernel) rfl rfl (Nat.le_of_ble_eq_true rfl) dM_spread_30 (fun H locs hP hD hS => ?_)
          have hP : va_P (dC, dI) classes (wM b d 0 (nI wn) (nI mn) (nI T.1) ks2 ct2 sm2 le2 gr2 fk fa) H := hP
          have hD : va_D A (wM b d 0 (nI wn) (nI mn) (nI T.1) ks2 ct2 sm2 le2 gr2 fk fa) := hD
          refine lv_aload_n hx hb dM_spread_33 rfl (lv_at hl 0 rfl) ?_
          refine va_get (D := (dC, dI)) (ci := 1) (v := .int 0) (C := "GroupRowsModel") (T := FM) (N := 11) hx hb hta inM hown hK hP 0 rfl rfl 0 (by decide) (hta _ w278) (fun _ h9 => h9) rfl dM_spread_34 ?_
          refine lv_if_le (tgt := 42) hx hb dM_spread_37 (by decide) (fun hz => ?_) (fun hz => ?_)
          rotate_left
          · skip
            exact absurd (by decide) hz
          · skip
            have hL : (0 ≤ i ∧ i < nI wn) ∧ 1 ≤ nn ∧ nn ≤ 5000 := ⟨⟨Int32.not_lt.mp h1, Int32.not_le.mp h2⟩, Int32.not_lt.mp h3, h4⟩
            obtain ⟨j, hj, ej, cj⟩ := in_nI (by omega) hL.1
            obtain ⟨N, hN, eN, cN⟩ := in_le (n := 5000) (by decide) ⟨i32_0le1 hL.2.1, hL.2.2⟩
            subst ej
            subst eN
            refine lv_iconst (v := 0) hx hb dM_spread_42 (by decide) ?_
            refine gi_as (y := nI 0) (nI_0.symm) ?_
            refine lv_istore (lv' := [(4, .int (nI 0)), (0, .ref (b 0)), (1, .int (nI N)), (2, .int (nI j)), (3, .int st)]) hx hb dM_spread_43 hl (by decide) rfl (fun ls hl => ?_)
            have loop : ∀ (kk cm : Nat) (fk1 : Nat → Int32) (fa1 : Nat → Int64) (T1 : TB) (ks1 : Nat → Int32) (ct1 sm1 le1 gr1 : Nat → Int64), cm + kk = N → repT (fun p => p) wn mn T1 ks1 ct1 sm1 le1 gr1 → sprT wn mn j st N 0 fk fa T = sprT wn mn j st kk cm fk1 fa1 T1 → ∀ (H : Heap) (locs : List Loc), va_P (dC, dI) classes (wM b d 0 (nI wn) (nI mn) (nI T1.1) ks1 ct1 sm1 le1 gr1 fk1 fa1) H → va_D A (wM b d 0 (nI wn) (nI mn) (nI T1.1) ks1 ct1 sm1 le1 gr1 fk1 fa1) → va_S A s.heap H locs → ∀ (ls : Array Slot), lv_has ls 6 [(4, .int (nI cm)), (0, .ref (b 0)), (1, .int (nI N)), (2, .int (nI j)), (3, .int st)] → W p l e (headSpec (Cond.code yM_spread bM_spread 6 (some .int) :: wAll) { frames := 3, cells := 0, slots := 0, locals := 128 }).room s m ([.ref (b 0), .int (nI N), .int (nI j), .int st] : List Value).toArray below meth c H locs 0 0 (MQ below (va_Qi (fun (r9 : Int32) (_ : Unit) => r9 = (if (0 ≤ nI j ∧ nI j < nI wn) ∧ 1 ≤ nI N ∧ nI N ≤ 5000 then nI (sprT wn mn (nI j).toNatClampNeg st (nI N).toNatClampNeg 0 fk fa T).1 else 0)) (fun (_ : Unit) (t9 : State) => (((0 ≤ nI j ∧ nI j < nI wn) ∧ 1 ≤ nI N ∧ nI N ≤ 5000) → atM dC dI A b d 0 wn mn (sprT wn mn (nI j).toNatClampNeg st (nI N).toNatClampNeg 0 fk fa T).2.1 (sprT wn mn (nI j).toNatClampNeg st (nI N).toNatClampNeg 0 fk fa T).2.2.1 (sprT wn mn (nI j).toNatClampNeg st (nI N).toNatClampNeg 0 fk fa T).2.2.2 t9) ∧ (¬ ((0 ≤ nI j ∧ nI j < nI wn) ∧ 1 ≤ nI N ∧ nI N ≤ 5000) → atM dC dI A b d 1 wn mn fk fa T t9)) A) ([.ref (b 0), .int (nI N), .int (nI j), .int st] : List Value).toArray s 0 0 A) (F0 m 45 ls []) := by
              intro kk
              induction kk with
              | zero =>
                intro cm fk1 fa1 T1 ks1 ct1 sm1 le1 gr1 hcm hr1 hsp H locs hP hD hS ls hl
                refine lv_iload hx hb dM_spread_45 (lv_at hl 0 rfl) ?_
                refine lv_iload_n hx hb dM_spread_47 rfl (lv_at hl 2 rfl) ?_
                refine lv_icmp_ge (tgt := 113) hx hb dM_spread_48 (by decide) (fun h5 => ?_) (fun h5 => ?_)
                · skip
                  refine lv_iload_n hx hb dM_spread_113 rfl (lv_at hl 2 rfl) ?_
                  have e9 : sprT wn mn j st N 0 fk fa T = (cm, fk1, fa1, T1) := hsp
                  exact W.iret (v := (nI N)) hx hb hr (fun t9 ht9 hW9 => ⟨⟨(nI N), (), rfl, by rw [if_pos hL, cj, cN, e9]; show nI N = nI cm; rw [show N = cm by omega], ⟨fun _ => by rw [cj, cN, e9]; exact ⟨ks1, ct1, sm1, le1, gr1, hr1, by rw [ht9]; exact hP, va_K.moved hW9.alike hK, hD⟩, fun h9 => absurd (hL) h9⟩⟩, hS.F ht9⟩) hS.2.2 dM_spread_114
                · skip
                  exact absurd (nI_le (by omega) (by omega)) h5
              | succ kk ih =>
                intro cm fk1 fa1 T1 ks1 ct1 sm1 le1 gr1 hcm hr1 hsp H locs hP hD hS ls hl
                refine lv_iload hx hb dM_spread_45 (lv_at hl 0 rfl) ?_
                refine lv_iload_n hx hb dM_spread_47 rfl (lv_at hl 2 rfl) ?_
                refine lv_icmp_ge (tgt := 113) hx hb dM_spread_48 (by decide) (fun h5 => ?_) (fun h5 => ?_)
                · skip
                  exact absurd h5 (nI_ge (a := cm) (by omega) (by omega))
                · skip
                  have mid : ∀ (fk2 : Nat → Int32) (fa2 : Nat → Int64), fk2 = (if cm = 0 then fk1 else stK fk1 j st) → fa2 = (if cm = 0 then fa1 else stA fa1 mn st) → ∀ (H : Heap) (locs : List Loc), va_P (dC, dI) classes (wM b d 0 (nI wn) (nI mn) (nI T1.1) ks1 ct1 sm1 le1 gr1 fk2 fa2) H → va_D A (wM b d 0 (nI wn) (nI mn) (nI T1.1) ks1 ct1 sm1 le1 gr1 fk2 fa2) → va_S A s.heap H locs → ∀ (ls : Array Slot), lv_has ls 6 [(4, .int (nI cm)), (0, .ref (b 0)), (1, .int (nI N)), (2, .int (nI j)), (3, .int st)] → W p l e (headSpec (Cond.code yM_spread bM_spread 6 (some .int) :: wAll) { frames := 3, cells := 0, slots := 0, locals := 128 }).room s m ([.ref (b 0), .int (nI N), .int (nI j), .int st] : List Value).toArray below meth c H locs 0 0 (MQ below (va_Qi (fun (r9 : Int32) (_ : Unit) => r9 = (if (0 ≤ nI j ∧ nI j < nI wn) ∧ 1 ≤ nI N ∧ nI N ≤ 5000 then nI (sprT wn mn (nI j).toNatClampNeg st (nI N).toNatClampNeg 0 fk fa T).1 else 0)) (fun (_ : Unit) (t9 : State) => (((0 ≤ nI j ∧ nI j < nI wn) ∧ 1 ≤ nI N ∧ nI N ≤ 5000) → atM dC dI A b d 0 wn mn (sprT wn mn (nI j).toNatClampNeg st (nI N).toNatClampNeg 0 fk fa T).2.1 (sprT wn mn (nI j).toNatClampNeg st (nI N).toNatClampNeg 0 fk fa T).2.2.1 (sprT wn mn (nI j).toNatClampNeg st (nI N).toNatClampNeg 0 fk fa T).2.2.2 t9) ∧ (¬ ((0 ≤ nI j ∧ nI j < nI wn) ∧ 1 ≤ nI N ∧ nI N ≤ 5000) → atM dC dI A b d 1 wn mn fk fa T t9)) A) ([.ref (b 0), .int (nI N), .int (nI j), .int st] : List Value).toArray s 0 0 A) (F0 m 96 ls []) := by
                    intro fk2 fa2 ek ea H locs hP hD hS ls hl
                    refine lv_aload_n hx hb dM_spread_96 rfl (lv_at hl 1 rfl) ?_
                    refine lv_iconst (v := 1) hx hb dM_spread_97 (by decide) ?_
                    have hPc := hP
                    have hDc := hD
                    have hKc := hK
                    have hFc := va_free (wc := (wM b d 0 (nI wn) (nI mn) (nI T1.1) ks1 ct1 sm1 le1 gr1 fk2 fa2)) hD hS hA [0, 1, 2, 3, 4, 5, 6, 7] rfl
                    refine va_calli (va_runV (As := [.int 1]) (rest := []) ⟨hx, hb, hml, hown, hta⟩ (c_comes l dC dI b d 0 wn mn fk2 fa2 T1 ks1 ct1 sm1 le1 gr1 hr1 1 H.size) (cwV 1 hta (gV w333 w335 sM_comes w2 w336) rfl rfl rfl (by decide +kernel) ⟨Nat.le_of_ble_eq_true rfl, Nat.le_of_ble_eq_true rfl⟩) ⟨gb_W, va_recv hKc hPc (ci := 1) (q0 := 0) rfl rfl, fun U hU hW => ⟨rfl, by rw [hU], by rw [hU]; exact hPc, va_K.moved hW.alike hKc, hDc.weaken (fun _ _ _ _ => trivial)⟩⟩ rfl rfl hl.1 rfl (lv_room (Nat.le_of_ble_eq_true rfl)) dM_spread_98 ⟨Nat.le_of_ble_eq_true rfl, Nat.le_of_ble_eq_true rfl⟩) hS (fun q _ h => hFc q h) hFc (fun r_9 u t H1 locs ht hvm hw hB hz1 hk1 hS => ?_)
                    rw [i64_one] at hw hB
                    obtain ⟨ks4, ct4, sm4, le4, gr4, hr4, hP1, hK1, hD1⟩ := hB
                    rw [ht] at hP1
                    obtain ⟨hP, hD⟩ := va_join (wr := []) (w1 := (wM b d 0 (nI wn) (nI mn) (nI (takeT wn fk2 fa2 1 T1).1.1) ks4 ct4 sm4 le4 gr4 fk2 fa2)) hP hD [0, 1, 2, 3, 4, 5, 6, 7] [] rfl rfl (by decide) (by decide) hk1 hFc hP1 hD1
                    generalize H1 = H at hP hS ⊢
                    have hP : va_P (dC, dI) classes (wM b d 0 (nI wn) (nI mn) (nI (takeT wn fk2 fa2 1 T1).1.1) ks4 ct4 sm4 le4 gr4 fk2 fa2) H := hP
                    have hD : va_D A (wM b d 0 (nI wn) (nI mn) (nI (takeT wn fk2 fa2 1 T1).1.1) ks4 ct4 sm4 le4 gr4 fk2 fa2) := hD
                    refine lv_if_ne (tgt := 107) hx hb dM_spread_101 (by decide) (fun h6 => ?_) (fun h6 => ?_)
                    · skip
                      rw [hw] at h6
                      have hb9 : (takeT wn fk2 fa2 1 T1).2 = true := by
                        by_cases q : (takeT wn fk2 fa2 1 T1).2 = true
                        · exact q
                        · rw [if_neg q] at h6; exact absurd rfl h6
                      refine lv_iinc (v := (nI (cm + 1))) (lv' := [(4, .int (nI (cm + 1))), (0, .ref (b 0)), (1, .int (nI N)), (2, .int (nI j)), (3, .int st)]) hx hb dM_spread_107 hl (k := 0) rfl (nI_1 _) (by decide) rfl (fun ls hl => ?_)
                      refine lv_goto (tgt := 45) hx hb dM_spread_110 (by decide) ?_
                      have hl := lv_sub hl [0, 1, 2, 3, 4] rfl
                      have hl : lv_has ls 6 [(4, .int (nI (cm + 1))), (0, .ref (b 0)), (1, .int (nI N)), (2, .int (nI j)), (3, .int st)] := hl
                      exact ih (cm + 1) fk2 fa2 (takeT wn fk2 fa2 1 T1).1 ks4 ct4 sm4 le4 gr4 (by omega) hr4 (hsp.trans (sprT_yes ek ea hb9)) H locs hP hD hS ls hl
                    · skip
                      rw [hw] at h6
                      have hb9 : ¬ (takeT wn fk2 fa2 1 T1).2 = true := fun q => by rw [if_pos q] at h6; exact absurd h6 (by decide)
                      have e8 := takeT_no hb9
                      rw [e8] at hr4 hP hD
                      have e9 : sprT wn mn j st N 0 fk fa T = (cm, fk2, fa2, T1) := hsp.trans (sprT_no ek ea hb9)
                      refine lv_iload hx hb dM_spread_104 (lv_at hl 0 rfl) ?_
                      exact W.iret (v := (nI cm)) hx hb hr (fun t9 ht9 hW9 => ⟨⟨(nI cm), (), rfl, by rw [if_pos hL, cj, cN, e9], ⟨fun _ => by rw [cj, cN, e9]; exact ⟨ks4, ct4, sm4, le4, gr4, hr4, by rw [ht9]; exact hP, va_K.moved hW9.alike hK, hD⟩, fun h9 => absurd (hL) h9⟩⟩, hS.F ht9⟩) hS.2.2 dM_spread_106
                  refine lv_iload hx hb dM_spread_51 (lv_at hl 0 rfl) ?_
                  refine lv_if_le (tgt := 96) hx hb dM_spread_53 (by decide) (fun h7 => ?_) (fun h7 => ?_)
                  · skip
                    have h7 : cm = 0 := by
                      rcases Nat.eq_zero_or_pos cm with q | q
                      · exact q
                      · exact absurd h7 (nI_nle q (by omega))
                    exact mid fk1 fa1 (if_pos h7).symm (if_pos h7).symm H locs hP hD hS ls hl
                  · skip
                    have h7 : ¬ cm = 0 := fun q => h7 (by rw [q, nI_0]; decide)
                    refine lv_aload_n hx hb dM_spread_56 rfl (lv_at hl 1 rfl) ?_
                    refine va_get (D := (dC, dI)) (ci := 1) (v := .ref (b 6)) (C := "GroupRowsModel") (T := FM) (N := 11) hx hb hta inM hown hK hP 0 rfl rfl 9 (by decide) (hta _ w287) (fun _ h9 => h9) rfl dM_spread_57 ?_
                    refine lv_iload_n hx hb dM_spread_60 rfl (lv_at hl 3 rfl) ?_
                    refine lv_dup2_11 hx hb dM_spread_61 rfl rfl ?_
                    refine gi_iald hx hb hK hP 6 5 rfl rfl (k := j) (by omega) (by decide) dM_spread_62 ?_
                    refine lv_iload_n hx hb dM_spread_63 rfl (lv_at hl 4 rfl) ?_
                    refine lv_iadd hx hb dM_spread_64 ?_
                    refine gi_iast hx hb hK hP hD hS 6 5 rfl rfl (k := j) (by omega) (by decide) dM_spread_65 (fun H locs hP hD hS => ?_)
                    have hP : va_P (dC, dI) classes (wM b d 0 (nI wn) (nI mn) (nI T1.1) ks1 ct1 sm1 le1 gr1 (upd fk1 j ((fk1 j) + st)) fa1) H := hP
                    have hD : va_D A (wM b d 0 (nI wn) (nI mn) (nI T1.1) ks1 ct1 sm1 le1 gr1 (upd fk1 j ((fk1 j) + st)) fa1) := hD
                    refine lv_iconst (v := 0) hx hb dM_spread_66 (by decide) ?_
                    refine gi_as (y := nI 0) (nI_0.symm) ?_
                    refine lv_istore (lv' := [(5, .int (nI 0)), (4, .int (nI cm)), (0, .ref (b 0)), (1, .int (nI N)), (2, .int (nI j)), (3, .int st)]) hx hb dM_spread_67 hl (by decide) rfl (fun ls hl => ?_)
                    have stp : ∀ (k2 mm : Nat), mm + k2 = mn → ∀ (H : Heap) (locs : List Loc), va_P (dC, dI) classes (wM b d 0 (nI wn) (nI mn) (nI T1.1) ks1 ct1 sm1 le1 gr1 (upd fk1 j (fk1 j + st)) (upTo (fun _ x => x + st.toInt64) 0 fa1 mm)) H → va_D A (wM b d 0 (nI wn) (nI mn) (nI T1.1) ks1 ct1 sm1 le1 gr1 (upd fk1 j (fk1 j + st)) (upTo (fun _ x => x + st.toInt64) 0 fa1 mm)) → va_S A s.heap H locs → ∀ (ls : Array Slot), lv_has ls 6 [(5, .int (nI mm)), (4, .int (nI cm)), (0, .ref (b 0)), (1, .int (nI N)), (2, .int (nI j)), (3, .int st)] → W p l e (headSpec (Cond.code yM_spread bM_spread 6 (some .int) :: wAll) { frames := 3, cells := 0, slots := 0, locals := 128 }).room s m ([.ref (b 0), .int (nI N), .int (nI j), .int st] : List Value).toArray below meth c H locs 0 0 (MQ below (va_Qi (fun (r9 : Int32) (_ : Unit) => r9 = (if (0 ≤ nI j ∧ nI j < nI wn) ∧ 1 ≤ nI N ∧ nI N ≤ 5000 then nI (sprT wn mn (nI j).toNatClampNeg st (nI N).toNatClampNeg 0 fk fa T).1 else 0)) (fun (_ : Unit) (t9 : State) => (((0 ≤ nI j ∧ nI j < nI wn) ∧ 1 ≤ nI N ∧ nI N ≤ 5000) → atM dC dI A b d 0 wn mn (sprT wn mn (nI j).toNatClampNeg st (nI N).toNatClampNeg 0 fk fa T).2.1 (sprT wn mn (nI j).toNatClampNeg st (nI N).toNatClampNeg 0 fk fa T).2.2.1 (sprT wn mn (nI j).toNatClampNeg st (nI N).toNatClampNeg 0 fk fa T).2.2.2 t9) ∧ (¬ ((0 ≤ nI j ∧ nI j < nI wn) ∧ 1 ≤ nI N ∧ nI N ≤ 5000) → atM dC dI A b d 1 wn mn fk fa T t9)) A) ([.ref (b 0), .int (nI N), .int (nI j), .int st] : List Value).toArray s 0 0 A) (F0 m 69 ls []) := by
                      intro k2
                      induction k2 with
                      | zero =>
                        intro mm hmm H locs hP hD hS ls hl
                        refine lv_iload hx hb dM_spread_69 (lv_at hl 0 rfl) ?_
                        refine lv_aload_n hx hb dM_spread_71 rfl (lv_at hl 2 rfl) ?_
                        refine va_get (D := (dC, dI)) (ci := 1) (v := .int (nI mn)) (C := "GroupRowsModel") (T := FM) (N := 11) hx hb hta inM hown hK hP 0 rfl rfl 2 (by decide) (hta _ w280) (fun _ h9 => h9) rfl dM_spread_72 ?_
                        refine lv_icmp_ge (tgt := 96) hx hb dM_spread_75 (by decide) (fun h8 => ?_) (fun h8 => ?_)
                        · skip
                          have hm8 : mn = mm := by omega
                          subst hm8
                          have hl := lv_sub hl [1, 2, 3, 4, 5] rfl
                          have hl : lv_has ls 6 [(4, .int (nI cm)), (0, .ref (b 0)), (1, .int (nI N)), (2, .int (nI j)), (3, .int st)] := hl
                          exact mid _ _ (if_neg h7).symm ((upTo_stA fa1 mn st).trans (if_neg h7).symm) H locs hP hD hS ls hl
                        · skip
                          exact absurd (nI_le (by omega) (by omega)) h8
                      | succ k2 ih3 =>
                        intro mm hmm H locs hP hD hS ls hl
                        refine lv_iload hx hb dM_spread_69 (lv_at hl 0 rfl) ?_
                        refine lv_aload_n hx hb dM_spread_71 rfl (lv_at hl 2 rfl) ?_
                        refine va_get (D := (dC, dI)) (ci := 1) (v := .int (nI mn)) (C := "GroupRowsModel") (T := FM) (N := 11) hx hb hta inM hown hK hP 0 rfl rfl 2 (by decide) (hta _ w280) (fun _ h9 => h9) rfl dM_spread_72 ?_
                        refine lv_icmp_ge (tgt := 96) hx hb dM_spread_75 (by decide) (fun h8 => ?_) (fun h8 => ?_)
                        · skip
                          exact absurd h8 (nI_ge (a := mm) (by omega) (by omega))
                        · skip
                          have e0 : mm = 0 + mm := by omega
                          refine lv_aload_n hx hb dM_spread_78 rfl (lv_at hl 2 rfl) ?_
                          refine va_get (D := (dC, dI)) (ci := 1) (v := .ref (b 7)) (C := "GroupRowsModel") (T := FM) (N := 11) hx hb hta inM hown hK hP 0 rfl rfl 10 (by decide) (hta _ w288) (fun _ h9 => h9) rfl dM_spread_79 ?_
                          refine lv_iload hx hb dM_spread_82 (lv_at hl 0 rfl) ?_
                          refine gi_as (y := nI (0 + mm)) (by rw [← e0]) ?_
                          refine lv_dup2_11 hx hb dM_spread_84 rfl rfl ?_
                          refine gi_lald hx hb hK hP 7 6 rfl rfl (k := (0 + mm)) (by omega) (by decide) dM_spread_85 ?_
                          refine lv_iload_n hx hb dM_spread_86 rfl (lv_at hl 5 rfl) ?_
                          refine lv_i2l (v := st.toInt64) hx hb dM_spread_87 rfl ?_
                          refine lv_ladd hx hb dM_spread_88 ?_
                          refine gi_last hx hb hK hP hD hS 7 6 rfl rfl (k := (0 + mm)) (by omega) (by decide) dM_spread_89 (fun H locs hP hD hS => ?_)
                          have hP : va_P (dC, dI) classes (wM b d 0 (nI wn) (nI mn) (nI T1.1) ks1 ct1 sm1 le1 gr1 (upd fk1 j (fk1 j + st)) (vp_updL (upTo (fun _ x => x + st.toInt64) 0 fa1 mm) (0 + mm) (((upTo (fun _ x => x + st.toInt64) 0 fa1 mm) (0 + mm)) + (st.toInt64)))) H := hP
                          have hD : va_D A (wM b d 0 (nI wn) (nI mn) (nI T1.1) ks1 ct1 sm1 le1 gr1 (upd fk1 j (fk1 j + st)) (vp_updL (upTo (fun _ x => x + st.toInt64) 0 fa1 mm) (0 + mm) (((upTo (fun _ x => x + st.toInt64) 0 fa1 mm) (0 + mm)) + (st.toInt64)))) := hD
                          refine lv_iinc (v := (nI (mm + 1))) (lv' := [(5, .int (nI (mm + 1))), (4, .int (nI cm)), (0, .ref (b 0)), (1, .int (nI N)), (2, .int (nI j)), (3, .int st)]) hx hb dM_spread_90 hl (k := 0) rfl (nI_1 _) (by decide) rfl (fun ls hl => ?_)
                          refine lv_goto (tgt := 69) hx hb dM_spread_93 (by decide) ?_
                          have hl := lv_sub hl [0, 1, 2, 3, 4, 5] rfl
                          have hl : lv_has ls 6 [(5, .int (nI (mm + 1))), (4, .int (nI cm)), (0, .ref (b 0)), (1, .int (nI N)), (2, .int (nI j)), (3, .int st)] := hl
                          exact ih3 (mm + 1) (by omega) H locs hP hD hS ls hl
                    have hl := lv_sub hl [0, 1, 2, 3, 4, 5] rfl
                    have hl : lv_has ls 6 [(5, .int (nI 0)), (4, .int (nI cm)), (0, .ref (b 0)), (1, .int (nI N)), (2, .int (nI j)), (3, .int st)] := hl
                    exact stp mn 0 (by omega) H locs hP hD hS ls hl
            have hl := lv_sub hl [0, 1, 2, 3, 4] rfl
            have hl : lv_has ls 6 [(4, .int (nI 0)), (0, .ref (b 0)), (1, .int (nI N)), (2, .int (nI j)), (3, .int st)] := hl
            exact loop N 0 fk fa T ks2 ct2 sm2 le2 gr2 (by omega) hrep rfl H locs hP hD hS ls hl
        · skip
          refine lv_iconst (v := 1) hx hb dM_spread_25 (by decide) ?_
          refine lv_goto (tgt := 30) hx hb dM_spread_26 (by decide) ?_
          refine va_put (D := (dC, dI)) (ci := 1) (v := .int 1) (ty := .int) (C := "GroupRowsModel") (T := FM) (N := 11) hx hb hta inM tM tMok nM hown hK hP hD hS 0 rfl rfl 0 (by decide) (hta _ w278) (fun _ h9 => h9) rfl (by decide +kernel) rfl rfl (Nat.le_of_ble_eq_true rfl) dM_spread_30 (fun H locs hP hD hS => ?_)
          have hP : va_P (dC, dI) classes (wM b d 1 (nI wn) (nI mn) (nI T.1) ks2 ct2 sm2 le2 gr2 fk fa) H := hP
          have hD : va_D A (wM b d 1 (nI wn) (nI mn) (nI T.1) ks2 ct2 sm2 le2 gr2 fk fa) := hD
          refine lv_aload_n hx hb dM_spread_33 rfl (lv_at hl 0 rfl) ?_
          refine va_get (D := (dC, dI)) (ci := 1) (v := .int 1) (C := "GroupRowsModel") (T := FM) (N := 11) hx hb hta inM hown hK hP 0 rfl rfl 0 (by decide) (hta _ w278) (fun _ h9 => h9) rfl dM_spread_34 ?_
          refine lv_if_le (tgt := 42) hx hb dM_spread_37 (by decide) (fun hz => ?_) (fun hz => ?_)
          · skip
            exact absurd hz (by decide)
          · skip
            refine lv_iconst (v := 0) hx hb dM_spread_40 (by decide) ?_
            exact W.iret (v := 0) hx hb hr (fun t9 ht9 hW9 => ⟨⟨0, (), rfl, (if_neg (fun q => h4 q.2.2)).symm, ⟨fun h9 => absurd h9 (fun q => h4 q.2.2), fun _ => ⟨_, _, _, _, _, hrep, by rw [ht9]; exact hP, va_K.moved hW9.alike hK, hD⟩⟩⟩, hS.F ht9⟩) hS.2.2 dM_spread_41
set_option maxHeartbeats 4000000 in
set_option maxRecDepth 100000 in
/-- the constructor of the model -/
theorem c_Minit (l : Launch) (dC : Nat → ClassId) (dI : Nat → Nat → Nat) (h0 sz : Nat) : Met l yM_init (Cond.code yM_init bM_init 1 none :: wAll) { frames := 1, cells := 7, slots := 33016, locals := 32 } (va_Pc [.ref h0] (fun U => U.heap.size = sz ∧ va_P (dC, dI) classes [(h0, .inr (1, [.int 0, .int 0, .int 0, .int 0, .null, .null, .null, .null, .null, .null, .null]))] U.heap ∧ va_K (dC, dI) classes [] U ∧ va_D (fun _ => True) [(h0, .inr (1, [.int 0, .int 0, .int 0, .int 0, .null, .null, .null, .null, .null, .null, .null]))])) (va_Qv (fun _ : Unit => True) (fun (_ : Unit) (t9 : State) => ∃ (b : Nat → Nat) (d : Nat → ClassId), b 0 = h0 ∧ atM dC dI (va_A [(h0, .inr (1, [.int 0, .int 0, .int 0, .int 0, .null, .null, .null, .null, .null, .null, .null]))] sz) b d 0 0 1 (fun _ => 0) (fun _ => 0) TB0 t9) (va_A [(h0, .inr (1, [.int 0, .int 0, .int 0, .int 0, .null, .null, .null, .null, .null, .null, .null]))] sz)) 7 33016 (va_A [(h0, .inr (1, [.int 0, .int 0, .int 0, .int 0, .null, .null, .null, .null, .null, .null, .null]))] sz) := by
  refine Met.ofW (cc := bM_init) (maxL := 1) (ret := none) (by decide) rfl ?_
  intro p e s m args below meth c s₁ B hml hv
  obtain ⟨rfl, hsz, hP, hK, hD0⟩ := hv
  have hx := B.exec
  have hb := B.bytes
  have hr := B.returns
  have hta : ∀ w ∈ wAll, w.before ([.ref h0] : List Value).toArray s = true := fun w h => atoms_spec (ws := (Cond.code yM_init bM_init 1 none :: wAll)) B.pre w (List.mem_cons_of_mem _ h)
  have hown : s.vm.findClass "GroupRowsModel" = some m.cls := findClass_of_methodNamed B.named
  have hlocks := B.notSynchronized
  have hin : meth.name = "<init>" := (name_of_methodNamed B.named B.method).1
  subst hsz
  have hD := hD0.self (sz := s.heap.size)
  generalize hAe : va_A [(h0, .inr (1, [.int 0, .int 0, .int 0, .int 0, .null, .null, .null, .null, .null, .null, .null]))] s.heap.size = A at hD ⊢
  have hA : ∀ q : Nat, s.heap.size ≤ q → A q := fun q h => by rw [← hAe]; exact Or.inr h
  have hS : va_S A s.heap s.heap [] := va_S.rf
  have hP : va_P (dC, dI) classes [(h0, .inr (1, [.int 0, .int 0, .int 0, .int 0, .null, .null, .null, .null, .null, .null, .null]))] s.heap := hP
  have hl := lv_entry ([.ref h0]) (n := 1) (Nat.le_of_ble_eq_true rfl)
  rw [lg_entry_eq]
  generalize (lg_sl ([.ref h0]) ++ List.replicate (1 - (lg_sl ([.ref h0])).length) Slot.unset).toArray = ls at hl ⊢
  have hl : lv_has ls 1 [(0, .ref h0)] := hl
  refine lv_aload_n hx hb dM_init_0 rfl (lv_at hl 0 rfl) ?_
  refine W.objInit hx hb hown (hta _ w277) (hta _ w17) (hta _ w18) rfl (by rw [hml]; exact hl.1) rfl dM_init_1 (Nat.le_of_ble_eq_true rfl) (Nat.le_of_ble_eq_true rfl) ?_
  refine W.eq (g2 := F0 m 4 ls []) rfl ?_
  refine lv_aload_n hx hb dM_init_4 rfl (lv_at hl 0 rfl) ?_
  refine lv_iconst (v := 1) hx hb dM_init_5 (by decide) ?_
  refine va_put (D := (dC, dI)) (ci := 1) (v := .int 1) (ty := .int) (C := "GroupRowsModel") (T := FM) (N := 11) hx hb hta inM tM tMok nM hown hK hP hD hS 0 rfl rfl 2 (by decide) (hta _ w280) (fun _ h9 => h9) rfl (by decide +kernel) rfl rfl (Nat.le_of_ble_eq_true rfl) dM_init_6 (fun H locs hP hD hS => ?_)
  have hP : va_P (dC, dI) classes [(h0, .inr (1, [.int 0, .int 0, .int 1, .int 0, .null, .null, .null, .null, .null, .null, .null]))] H := hP
  have hD : va_D A [(h0, .inr (1, [.int 0, .int 0, .int 1, .int 0, .null, .null, .null, .null, .null, .null, .null]))] := hD
  refine lv_aload_n hx hb dM_init_9 rfl (lv_at hl 0 rfl) ?_
  refine lv_sipush (v := 8000) hx hb dM_init_10 (by decide) ?_
  refine va_newa (atype := .int) (ty := .int) (N' := 8000) (a0 := (8000, .inl (fun _ => 0))) hx hb (hta _ w53) rfl hK hP hD hS hA (fun _ => rfl) (by decide) (by decide) (by decide) (Nat.le_of_ble_eq_true rfl) (Nat.le_of_ble_eq_true rfl) dM_init_13 (fun q1 k1 H hK hP hD hS => ?_)
  have hP : va_P (dC, dI) classes [(h0, .inr (1, [.int 0, .int 0, .int 1, .int 0, .null, .null, .null, .null, .null, .null, .null])), (q1, .inl (k1, 8000, .inl (fun _ => 0)))] H := hP
  have hD : va_D A [(h0, .inr (1, [.int 0, .int 0, .int 1, .int 0, .null, .null, .null, .null, .null, .null, .null])), (q1, .inl (k1, 8000, .inl (fun _ => 0)))] := hD
  have hK : va_K (dC, dI) classes [(k1, .int)] s := hK
  refine W.cs (cells' := 1) (slots' := 8000) rfl rfl ?_
  refine va_putF (D := (dC, dI)) (ci := 1) (v := .ref q1) (ty := (.array .int)) (C := "GroupRowsModel") (T := FM) (N := 11) hx hb hta inM tM tMok nM hown hK hP hD hS 0 rfl rfl 4 (by decide) (hta _ w282) (fun _ h9 => h9) rfl hin rfl (by decide +kernel) rfl rfl (Nat.le_of_ble_eq_true rfl) dM_init_15 (fun H locs hP hD hS => ?_)
  have hP : va_P (dC, dI) classes [(h0, .inr (1, [.int 0, .int 0, .int 1, .int 0, .ref q1, .null, .null, .null, .null, .null, .null])), (q1, .inl (k1, 8000, .inl (fun _ => 0)))] H := hP
  have hD : va_D A [(h0, .inr (1, [.int 0, .int 0, .int 1, .int 0, .ref q1, .null, .null, .null, .null, .null, .null])), (q1, .inl (k1, 8000, .inl (fun _ => 0)))] := hD
  refine lv_aload_n hx hb dM_init_18 rfl (lv_at hl 0 rfl) ?_
  refine lv_sipush (v := 1000) hx hb dM_init_19 (by decide) ?_
  refine va_newa (atype := .long) (ty := .long) (N' := 1000) (a0 := (1000, .inr (.inl (fun _ => 0)))) hx hb (hta _ w54) rfl hK hP hD hS hA (fun _ => rfl) (by decide) (by decide) (by decide) (Nat.le_of_ble_eq_true rfl) (Nat.le_of_ble_eq_true rfl) dM_init_22 (fun q2 k2 H hK hP hD hS => ?_)
  have hP : va_P (dC, dI) classes [(h0, .inr (1, [.int 0, .int 0, .int 1, .int 0, .ref q1, .null, .null, .null, .null, .null, .null])), (q1, .inl (k1, 8000, .inl (fun _ => 0))), (q2, .inl (k2, 1000, .inr (.inl (fun _ => 0))))] H := hP
  have hD : va_D A [(h0, .inr (1, [.int 0, .int 0, .int 1, .int 0, .ref q1, .null, .null, .null, .null, .null, .null])), (q1, .inl (k1, 8000, .inl (fun _ => 0))), (q2, .inl (k2, 1000, .inr (.inl (fun _ => 0))))] := hD
  have hK : va_K (dC, dI) classes [(k1, .int), (k2, .long)] s := hK
  refine W.cs (cells' := 2) (slots' := 9000) rfl rfl ?_
  refine va_putF (D := (dC, dI)) (ci := 1) (v := .ref q2) (ty := (.array .long)) (C := "GroupRowsModel") (T := FM) (N := 11) hx hb hta inM tM tMok nM hown hK hP hD hS 0 rfl rfl 5 (by decide) (hta _ w283) (fun _ h9 => h9) rfl hin rfl (by decide +kernel) rfl rfl (Nat.le_of_ble_eq_true rfl) dM_init_24 (fun H locs hP hD hS => ?_)
  have hP : va_P (dC, dI) classes [(h0, .inr (1, [.int 0, .int 0, .int 1, .int 0, .ref q1, .ref q2, .null, .null, .null, .null, .null])), (q1, .inl (k1, 8000, .inl (fun _ => 0))), (q2, .inl (k2, 1000, .inr (.inl (fun _ => 0))))] H := hP
  have hD : va_D A [(h0, .inr (1, [.int 0, .int 0, .int 1, .int 0, .ref q1, .ref q2, .null, .null, .null, .null, .null])), (q1, .inl (k1, 8000, .inl (fun _ => 0))), (q2, .inl (k2, 1000, .inr (.inl (fun _ => 0))))] := hD
  refine lv_aload_n hx hb dM_init_27 rfl (lv_at hl 0 rfl) ?_
  refine lv_sipush (v := 8000) hx hb dM_init_28 (by decide) ?_
  refine va_newa (atype := .long) (ty := .long) (N' := 8000) (a0 := (8000, .inr (.inl (fun _ => 0)))) hx hb (hta _ w54) rfl hK hP hD hS hA (fun _ => rfl) (by decide) (by decide) (by decide) (Nat.le_of_ble_eq_true rfl) (Nat.le_of_ble_eq_true rfl) dM_init_31 (fun q3 k3 H hK hP hD hS => ?_)
  have hP : va_P (dC, dI) classes [(h0, .inr (1, [.int 0, .int 0, .int 1, .int 0, .ref q1, .ref q2, .null, .null, .null, .null, .null])), (q1, .inl (k1, 8000, .inl (fun _ => 0))), (q2, .inl (k2, 1000, .inr (.inl (fun _ => 0)))), (q3, .inl (k3, 8000, .inr (.inl (fun _ => 0))))] H := hP
  have hD : va_D A [(h0, .inr (1, [.int 0, .int 0, .int 1, .int 0, .ref q1, .ref q2, .null, .null, .null, .null, .null])), (q1, .inl (k1, 8000, .inl (fun _ => 0))), (q2, .inl (k2, 1000, .inr (.inl (fun _ => 0)))), (q3, .inl (k3, 8000, .inr (.inl (fun _ => 0))))] := hD
  have hK : va_K (dC, dI) classes [(k1, .int), (k2, .long), (k3, .long)] s := hK
  refine W.cs (cells' := 3) (slots' := 17000) rfl rfl ?_
  refine va_putF (D := (dC, dI)) (ci := 1) (v := .ref q3) (ty := (.array .long)) (C := "GroupRowsModel") (T := FM) (N := 11) hx hb hta inM tM tMok nM hown hK hP hD hS 0 rfl rfl 6 (by decide) (hta _ w284) (fun _ h9 => h9) rfl hin rfl (by decide +kernel) rfl rfl (Nat.le_of_ble_eq_true rfl) dM_init_33 (fun H locs hP hD hS => ?_)
  have hP : va_P (dC, dI) classes [(h0, .inr (1, [.int 0, .int 0, .int 1, .int 0, .ref q1, .ref q2, .ref q3, .null, .null, .null, .null])), (q1, .inl (k1, 8000, .inl (fun _ => 0))), (q2, .inl (k2, 1000, .inr (.inl (fun _ => 0)))), (q3, .inl (k3, 8000, .inr (.inl (fun _ => 0))))] H := hP
  have hD : va_D A [(h0, .inr (1, [.int 0, .int 0, .int 1, .int 0, .ref q1, .ref q2, .ref q3, .null, .null, .null, .null])), (q1, .inl (k1, 8000, .inl (fun _ => 0))), (q2, .inl (k2, 1000, .inr (.inl (fun _ => 0)))), (q3, .inl (k3, 8000, .inr (.inl (fun _ => 0))))] := hD
  refine lv_aload_n hx hb dM_init_36 rfl (lv_at hl 0 rfl) ?_
  refine lv_sipush (v := 8000) hx hb dM_init_37 (by decide) ?_
  refine va_newa (atype := .long) (ty := .long) (N' := 8000) (a0 := (8000, .inr (.inl (fun _ => 0)))) hx hb (hta _ w54) rfl hK hP hD hS hA (fun _ => rfl) (by decide) (by decide) (by decide) (Nat.le_of_ble_eq_true rfl) (Nat.le_of_ble_eq_true rfl) dM_init_40 (fun q4 k4 H hK hP hD hS => ?_)
  have hP : va_P (dC, dI) classes [(h0, .inr (1, [.int 0, .int 0, .int 1, .int 0, .ref q1, .ref q2, .ref q3, .null, .null, .null, .null])), (q1, .inl (k1, 8000, .inl (fun _ => 0))), (q2, .inl (k2, 1000, .inr (.inl (fun _ => 0)))), (q3, .inl (k3, 8000, .inr (.inl (fun _ => 0)))), (q4, .inl (k4, 8000, .inr (.inl (fun _ => 0))))] H := hP
  have hD : va_D A [(h0, .inr (1, [.int 0, .int 0, .int 1, .int 0, .ref q1, .ref q2, .ref q3, .null, .null, .null, .null])), (q1, .inl (k1, 8000, .inl (fun _ => 0))), (q2, .inl (k2, 1000, .inr (.inl (fun _ => 0)))), (q3, .inl (k3, 8000, .inr (.inl (fun _ => 0)))), (q4, .inl (k4, 8000, .inr (.inl (fun _ => 0))))] := hD
  have hK : va_K (dC, dI) classes [(k1, .int), (k2, .long), (k3, .long), (k4, .long)] s := hK
  refine W.cs (cells' := 4) (slots' := 25000) rfl rfl ?_
  refine va_putF (D := (dC, dI)) (ci := 1) (v := .ref q4) (ty := (.array .long)) (C := "GroupRowsModel") (T := FM) (N := 11) hx hb hta inM tM tMok nM hown hK hP hD hS 0 rfl rfl 7 (by decide) (hta _ w285) (fun _ h9 => h9) rfl hin rfl (by decide +kernel) rfl rfl (Nat.le_of_ble_eq_true rfl) dM_init_42 (fun H locs hP hD hS => ?_)
  have hP : va_P (dC, dI) classes [(h0, .inr (1, [.int 0, .int 0, .int 1, .int 0, .ref q1, .ref q2, .ref q3, .ref q4, .null, .null, .null])), (q1, .inl (k1, 8000, .inl (fun _ => 0))), (q2, .inl (k2, 1000, .inr (.inl (fun _ => 0)))), (q3, .inl (k3, 8000, .inr (.inl (fun _ => 0)))), (q4, .inl (k4, 8000, .inr (.inl (fun _ => 0))))] H := hP
  have hD : va_D A [(h0, .inr (1, [.int 0, .int 0, .int 1, .int 0, .ref q1, .ref q2, .ref q3, .ref q4, .null, .null, .null])), (q1, .inl (k1, 8000, .inl (fun _ => 0))), (q2, .inl (k2, 1000, .inr (.inl (fun _ => 0)))), (q3, .inl (k3, 8000, .inr (.inl (fun _ => 0)))), (q4, .inl (k4, 8000, .inr (.inl (fun _ => 0))))] := hD
  refine lv_aload_n hx hb dM_init_45 rfl (lv_at hl 0 rfl) ?_
  refine lv_sipush (v := 8000) hx hb dM_init_46 (by decide) ?_
  refine va_newa (atype := .long) (ty := .long) (N' := 8000) (a0 := (8000, .inr (.inl (fun _ => 0)))) hx hb (hta _ w54) rfl hK hP hD hS hA (fun _ => rfl) (by decide) (by decide) (by decide) (Nat.le_of_ble_eq_true rfl) (Nat.le_of_ble_eq_true rfl) dM_init_49 (fun q5 k5 H hK hP hD hS => ?_)
  have hP : va_P (dC, dI) classes [(h0, .inr (1, [.int 0, .int 0, .int 1, .int 0, .ref q1, .ref q2, .ref q3, .ref q4, .null, .null, .null])), (q1, .inl (k1, 8000, .inl (fun _ => 0))), (q2, .inl (k2, 1000, .inr (.inl (fun _ => 0)))), (q3, .inl (k3, 8000, .inr (.inl (fun _ => 0)))), (q4, .inl (k4, 8000, .inr (.inl (fun _ => 0)))), (q5, .inl (k5, 8000, .inr (.inl (fun _ => 0))))] H := hP
  have hD : va_D A [(h0, .inr (1, [.int 0, .int 0, .int 1, .int 0, .ref q1, .ref q2, .ref q3, .ref q4, .null, .null, .null])), (q1, .inl (k1, 8000, .inl (fun _ => 0))), (q2, .inl (k2, 1000, .inr (.inl (fun _ => 0)))), (q3, .inl (k3, 8000, .inr (.inl (fun _ => 0)))), (q4, .inl (k4, 8000, .inr (.inl (fun _ => 0)))), (q5, .inl (k5, 8000, .inr (.inl (fun _ => 0))))] := hD
  have hK : va_K (dC, dI) classes [(k1, .int), (k2, .long), (k3, .long), (k4, .long), (k5, .long)] s := hK
  refine W.cs (cells' := 5) (slots' := 33000) rfl rfl ?_
  refine va_putF (D := (dC, dI)) (ci := 1) (v := .ref q5) (ty := (.array .long)) (C := "GroupRowsModel") (T := FM) (N := 11) hx hb hta inM tM tMok nM hown hK hP hD hS 0 rfl rfl 8 (by decide) (hta _ w286) (fun _ h9 => h9) rfl hin rfl (by decide +kernel) rfl rfl (Nat.le_of_ble_eq_true rfl) dM_init_51 (fun H locs hP hD hS => ?_)
  have hP : va_P (dC, dI) classes [(h0, .inr (1, [.int 0, .int 0, .int 1, .int 0, .ref q1, .ref q2, .ref q3, .ref q4, .ref q5, .null, .null])), (q1, .inl (k1, 8000, .inl (fun _ => 0))), (q2, .inl (k2, 1000, .inr (.inl (fun _ => 0)))), (q3, .inl (k3, 8000, .inr (.inl (fun _ => 0)))), (q4, .inl (k4, 8000, .inr (.inl (fun _ => 0)))), (q5, .inl (k5, 8000, .inr (.inl (fun _ => 0))))] H := hP
  have hD : va_D A [(h0, .inr (1, [.int 0, .int 0, .int 1, .int 0, .ref q1, .ref q2, .ref q3, .ref q4, .ref q5, .null, .null])), (q1, .inl (k1, 8000, .inl (fun _ => 0))), (q2, .inl (k2, 1000, .inr (.inl (fun _ => 0)))), (q3, .inl (k3, 8000, .inr (.inl (fun _ => 0)))), (q4, .inl (k4, 8000, .inr (.inl (fun _ => 0)))), (q5, .inl (k5, 8000, .inr (.inl (fun _ => 0))))] := hD
  refine lv_aload_n hx hb dM_init_54 rfl (lv_at hl 0 rfl) ?_
  refine lv_bipush (v := 8) hx hb dM_init_55 (by decide) ?_
  refine va_newa (atype := .int) (ty := .int) (N' := 8) (a0 := (8, .inl (fun _ => 0))) hx hb (hta _ w53) rfl hK hP hD hS hA (fun _ => rfl) (by decide) (by decide) (by decide) (Nat.le_of_ble_eq_true rfl) (Nat.le_of_ble_eq_true rfl) dM_init_57 (fun q6 k6 H hK hP hD hS => ?_)
  have hP : va_P (dC, dI) classes [(h0, .inr (1, [.int 0, .int 0, .int 1, .int 0, .ref q1, .ref q2, .ref q3, .ref q4, .ref q5, .null, .null])), (q1, .inl (k1, 8000, .inl (fun _ => 0))), (q2, .inl (k2, 1000, .inr (.inl (fun _ => 0)))), (q3, .inl (k3, 8000, .inr (.inl (fun _ => 0)))), (q4, .inl (k4, 8000, .inr (.inl (fun _ => 0)))), (q5, .inl (k5, 8000, .inr (.inl (fun _ => 0)))), (q6, .inl (k6, 8, .inl (fun _ => 0)))] H := hP
  have hD : va_D A [(h0, .inr (1, [.int 0, .int 0, .int 1, .int 0, .ref q1, .ref q2, .ref q3, .ref q4, .ref q5, .null, .null])), (q1, .inl (k1, 8000, .inl (fun _ => 0))), (q2, .inl (k2, 1000, .inr (.inl (fun _ => 0)))), (q3, .inl (k3, 8000, .inr (.inl (fun _ => 0)))), (q4, .inl (k4, 8000, .inr (.inl (fun _ => 0)))), (q5, .inl (k5, 8000, .inr (.inl (fun _ => 0)))), (q6, .inl (k6, 8, .inl (fun _ => 0)))] := hD
  have hK : va_K (dC, dI) classes [(k1, .int), (k2, .long), (k3, .long), (k4, .long), (k5, .long), (k6, .int)] s := hK
  refine W.cs (cells' := 6) (slots' := 33008) rfl rfl ?_
  refine va_putF (D := (dC, dI)) (ci := 1) (v := .ref q6) (ty := (.array .int)) (C := "GroupRowsModel") (T := FM) (N := 11) hx hb hta inM tM tMok nM hown hK hP hD hS 0 rfl rfl 9 (by decide) (hta _ w287) (fun _ h9 => h9) rfl hin rfl (by decide +kernel) rfl rfl (Nat.le_of_ble_eq_true rfl) dM_init_59 (fun H locs hP hD hS => ?_)
  have hP : va_P (dC, dI) classes [(h0, .inr (1, [.int 0, .int 0, .int 1, .int 0, .ref q1, .ref q2, .ref q3, .ref q4, .ref q5, .ref q6, .null])), (q1, .inl (k1, 8000, .inl (fun _ => 0))), (q2, .inl (k2, 1000, .inr (.inl (fun _ => 0)))), (q3, .inl (k3, 8000, .inr (.inl (fun _ => 0)))), (q4, .inl (k4, 8000, .inr (.inl (fun _ => 0)))), (q5, .inl (k5, 8000, .inr (.inl (fun _ => 0)))), (q6, .inl (k6, 8, .inl (fun _ => 0)))] H := hP
  have hD : va_D A [(h0, .inr (1, [.int 0, .int 0, .int 1, .int 0, .ref q1, .ref q2, .ref q3, .ref q4, .ref q5, .ref q6, .null])), (q1, .inl (k1, 8000, .inl (fun _ => 0))), (q2, .inl (k2, 1000, .inr (.inl (fun _ => 0)))), (q3, .inl (k3, 8000, .inr (.inl (fun _ => 0)))), (q4, .inl (k4, 8000, .inr (.inl (fun _ => 0)))), (q5, .inl (k5, 8000, .inr (.inl (fun _ => 0)))), (q6, .inl (k6, 8, .inl (fun _ => 0)))] := hD
  refine lv_aload_n hx hb dM_init_62 rfl (lv_at hl 0 rfl) ?_
  refine lv_bipush (v := 8) hx hb dM_init_63 (by decide) ?_
  refine va_newa (atype := .long) (ty := .long) (N' := 8) (a0 := (8, .inr (.inl (fun _ => 0)))) hx hb (hta _ w54) rfl hK hP hD hS hA (fun _ => rfl) (by decide) (by decide) (by decide) (Nat.le_of_ble_eq_true rfl) (Nat.le_of_ble_eq_true rfl) dM_init_65 (fun q7 k7 H hK hP hD hS => ?_)
  have hP : va_P (dC, dI) classes [(h0, .inr (1, [.int 0, .int 0, .int 1, .int 0, .ref q1, .ref q2, .ref q3, .ref q4, .ref q5, .ref q6, .null])), (q1, .inl (k1, 8000, .inl (fun _ => 0))), (q2, .inl (k2, 1000, .inr (.inl (fun _ => 0)))), (q3, .inl (k3, 8000, .inr (.inl (fun _ => 0)))), (q4, .inl (k4, 8000, .inr (.inl (fun _ => 0)))), (q5, .inl (k5, 8000, .inr (.inl (fun _ => 0)))), (q6, .inl (k6, 8, .inl (fun _ => 0))), (q7, .inl (k7, 8, .inr (.inl (fun _ => 0))))] H := hP
  have hD : va_D A [(h0, .inr (1, [.int 0, .int 0, .int 1, .int 0, .ref q1, .ref q2, .ref q3, .ref q4, .ref q5, .ref q6, .null])), (q1, .inl (k1, 8000, .inl (fun _ => 0))), (q2, .inl (k2, 1000, .inr (.inl (fun _ => 0)))), (q3, .inl (k3, 8000, .inr (.inl (fun _ => 0)))), (q4, .inl (k4, 8000, .inr (.inl (fun _ => 0)))), (q5, .inl (k5, 8000, .inr (.inl (fun _ => 0)))), (q6, .inl (k6, 8, .inl (fun _ => 0))), (q7, .inl (k7, 8, .inr (.inl (fun _ => 0))))] := hD
  have hK : va_K (dC, dI) classes [(k1, .int), (k2, .long), (k3, .long), (k4, .long), (k5, .long), (k6, .int), (k7, .long)] s := hK
  refine W.cs (cells' := 7) (slots' := 33016) rfl rfl ?_
  refine va_putF (D := (dC, dI)) (ci := 1) (v := .ref q7) (ty := (.array .long)) (C := "GroupRowsModel") (T := FM) (N := 11) hx hb hta inM tM tMok nM hown hK hP hD hS 0 rfl rfl 10 (by decide) (hta _ w288) (fun _ h9 => h9) rfl hin rfl (by decide +kernel) rfl rfl (Nat.le_of_ble_eq_true rfl) dM_init_67 (fun H locs hP hD hS => ?_)
  have hP : va_P (dC, dI) classes [(h0, .inr (1, [.int 0, .int 0, .int 1, .int 0, .ref q1, .ref q2, .ref q3, .ref q4, .ref q5, .ref q6, .ref q7])), (q1, .inl (k1, 8000, .inl (fun _ => 0))), (q2, .inl (k2, 1000, .inr (.inl (fun _ => 0)))), (q3, .inl (k3, 8000, .inr (.inl (fun _ => 0)))), (q4, .inl (k4, 8000, .inr (.inl (fun _ => 0)))), (q5, .inl (k5, 8000, .inr (.inl (fun _ => 0)))), (q6, .inl (k6, 8, .inl (fun _ => 0))), (q7, .inl (k7, 8, .inr (.inl (fun _ => 0))))] H := hP
  have hD : va_D A [(h0, .inr (1, [.int 0, .int 0, .int 1, .int 0, .ref q1, .ref q2, .ref q3, .ref q4, .ref q5, .ref q6, .ref q7])), (q1, .inl (k1, 8000, .inl (fun _ => 0))), (q2, .inl (k2, 1000, .inr (.inl (fun _ => 0)))), (q3, .inl (k3, 8000, .inr (.inl (fun _ => 0)))), (q4, .inl (k4, 8000, .inr (.inl (fun _ => 0)))), (q5, .inl (k5, 8000, .inr (.inl (fun _ => 0)))), (q6, .inl (k6, 8, .inl (fun _ => 0))), (q7, .inl (k7, 8, .inr (.inl (fun _ => 0))))] := hD
  obtain ⟨b, eb⟩ : ∃ b : Nat → Nat, b = fun n => match n with | 0 => h0 | 1 => q1 | 2 => q2 | 3 => q3 | 4 => q4 | 5 => q5 | 6 => q6 | _ => q7 := ⟨_, rfl⟩
  obtain ⟨d, ed⟩ : ∃ d : Nat → ClassId, d = fun n => match n with | 0 => k1 | 1 => k1 | 2 => k2 | 3 => k3 | 4 => k4 | 5 => k5 | 6 => k6 | _ => k7 := ⟨_, rfl⟩
  have hP : va_P (dC, dI) classes (wM b d 0 (nI 0) (nI 1) (nI 0) (fun _ => 0) (fun _ => 0) (fun _ => 0) (fun _ => 0) (fun _ => 0) (fun _ => 0) (fun _ => 0)) H := by rw [eb, ed]; exact hP
  have hD : va_D A (wM b d 0 (nI 0) (nI 1) (nI 0) (fun _ => 0) (fun _ => 0) (fun _ => 0) (fun _ => 0) (fun _ => 0) (fun _ => 0) (fun _ => 0)) := by rw [eb, ed]; exact hD
  have hK : va_K (dC, dI) classes (kM d) s := by rw [ed]; exact hK
  exact W.vret hx hb hr (fun t9 ht9 hW9 => ⟨⟨(), rfl, trivial, b, d, (congrFun eb 0).trans rfl, _, _, _, _, _, rep_0 (by decide) (by decide) (by decide), by rw [ht9]; exact hP, va_K.moved hW9.alike hK, hD⟩, hS.F ht9⟩) hS.2.2 dM_init_70
