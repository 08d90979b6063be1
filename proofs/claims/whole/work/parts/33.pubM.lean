set_option maxHeartbeats 4000000 in
set_option maxRecDepth 100000 in
theorem c_Mkey (l : Launch) (dC : Nat → ClassId) (dI : Nat → Nat → Nat) (b : Nat → Nat) (d : Nat → ClassId) (cd : Int32) (wn mn : Nat) (fk : Nat → Int32) (fa : Nat → Int64) (T : TB) (ks2 : Nat → Int32) (ct2 sm2 le2 gr2 : Nat → Int64) (hrep : repT (fun p => p) wn mn T ks2 ct2 sm2 le2 gr2) (i v : Int32) (sz : Nat)  : Met l yM_key (Cond.code yM_key bM_key 4 (some .int) :: wAll) { frames := 3, cells := 0, slots := 0, locals := 128 } (va_Pc [.ref (b 0), .int i, .int v] (fun U => U.heap.size = sz ∧ va_P (dC, dI) classes (wM b d cd (nI wn) (nI mn) (nI T.1) ks2 ct2 sm2 le2 gr2 fk fa) U.heap ∧ va_K (dC, dI) classes (kM d) U ∧ va_D (fun _ => True) (wM b d cd (nI wn) (nI mn) (nI T.1) ks2 ct2 sm2 le2 gr2 fk fa))) (va_Qi (fun (r9 : Int32) (_ : Unit) => r9 = (if 0 ≤ i ∧ i < nI wn then fk i.toNatClampNeg else 0)) (fun (_ : Unit) (t9 : State) => ((0 ≤ i ∧ i < nI wn) → atM dC dI (va_A (wM b d cd (nI wn) (nI mn) (nI T.1) ks2 ct2 sm2 le2 gr2 fk fa) sz) b d 0 wn mn (upd fk i.toNatClampNeg v) fa T t9) ∧ (¬ (0 ≤ i ∧ i < nI wn) → atM dC dI (va_A (wM b d cd (nI wn) (nI mn) (nI T.1) ks2 ct2 sm2 le2 gr2 fk fa) sz) b d 1 wn mn fk fa T t9)) (va_A (wM b d cd (nI wn) (nI mn) (nI T.1) ks2 ct2 sm2 le2 gr2 fk fa) sz)) 0 0 (va_A (wM b d cd (nI wn) (nI mn) (nI T.1) ks2 ct2 sm2 le2 gr2 fk fa) sz) := by
  refine Met.ofW (cc := bM_key) (maxL := 4) (ret := (some .int)) (by decide) rfl ?_
  intro p e s m args below meth c s₁ B hml hv
  obtain ⟨rfl, hsz, hP, hK, hD0⟩ := hv
  have hx := B.exec
  have hb := B.bytes
  have hr := B.returns
  have hta : ∀ w ∈ wAll, w.before ([.ref (b 0), .int i, .int v] : List Value).toArray s = true := fun w h => atoms_spec (ws := (Cond.code yM_key bM_key 4 (some .int) :: wAll)) B.pre w (List.mem_cons_of_mem _ h)
  have hown : s.vm.findClass "GroupRowsModel" = some m.cls := findClass_of_methodNamed B.named
  have hlocks := B.notSynchronized
  subst hsz
  have hD := hD0.self (sz := s.heap.size)
  generalize hAe : va_A (wM b d cd (nI wn) (nI mn) (nI T.1) ks2 ct2 sm2 le2 gr2 fk fa) s.heap.size = A at hD ⊢
  have hA : ∀ q : Nat, s.heap.size ≤ q → A q := fun q h => by rw [← hAe]; exact Or.inr h
  have hS : va_S A s.heap s.heap [] := va_S.rf
  have hP : va_P (dC, dI) classes (wM b d cd (nI wn) (nI mn) (nI T.1) ks2 ct2 sm2 le2 gr2 fk fa) s.heap := hP
  have hl := lv_entry ([.ref (b 0), .int i, .int v]) (n := 4) (Nat.le_of_ble_eq_true rfl)
  rw [lg_entry_eq]
  generalize (lg_sl ([.ref (b 0), .int i, .int v]) ++ List.replicate (4 - (lg_sl ([.ref (b 0), .int i, .int v])).length) Slot.unset).toArray = ls at hl ⊢
  have hl : lv_has ls 4 [(0, .ref (b 0)), (1, .int i), (2, .int v)] := hl
  obtain ⟨⟨hwn, hmn1, hmn, hn⟩, hk9, hc9, hv9, hs9⟩ := id hrep
  refine lv_aload_n hx hb dM_key_0 rfl (lv_at hl 0 rfl) ?_
  refine lv_iload_n hx hb dM_key_1 rfl (lv_at hl 1 rfl) ?_
  refine lv_if_lt (tgt := 13) hx hb dM_key_2 (by decide) (fun h1 => ?_) (fun h1 => ?_)
  · skip
    refine lv_iconst (v := 1) hx hb dM_key_13 (by decide) ?_
    refine lv_goto (tgt := 18) hx hb dM_key_14 (by decide) ?_
    refine va_put (D := (dC, dI)) (ci := 1) (v := .int 1) (ty := .int) (C := "GroupRowsModel") (T := FM) (N := 11) hx hb hta inM tM tMok nM hown hK hP hD hS 0 rfl rfl 0 (by decide) (hta _ w278) (fun _ h9 => h9) rfl (by decide +kernel) rfl rfl (Nat.le_of_ble_eq_true rfl) dM_key_18 (fun H locs hP hD hS => ?_)
    have hP : va_P (dC, dI) classes (wM b d 1 (nI wn) (nI mn) (nI T.1) ks2 ct2 sm2 le2 gr2 fk fa) H := hP
    have hD : va_D A (wM b d 1 (nI wn) (nI mn) (nI T.1) ks2 ct2 sm2 le2 gr2 fk fa) := hD
    refine lv_aload_n hx hb dM_key_21 rfl (lv_at hl 0 rfl) ?_
    refine va_get (D := (dC, dI)) (ci := 1) (v := .int 1) (C := "GroupRowsModel") (T := FM) (N := 11) hx hb hta inM hown hK hP 0 rfl rfl 0 (by decide) (hta _ w278) (fun _ h9 => h9) rfl dM_key_22 ?_
    refine lv_if_le (tgt := 30) hx hb dM_key_25 (by decide) (fun hz => ?_) (fun hz => ?_)
    · skip
      exact absurd hz (by decide)
    · skip
      refine lv_iconst (v := 0) hx hb dM_key_28 (by decide) ?_
      exact W.iret (v := 0) hx hb hr (fun t9 ht9 hW9 => ⟨⟨0, (), rfl, (if_neg (fun q => absurd q.1 (Int32.not_le.mpr h1))).symm, ⟨fun h9 => absurd h9 (fun q => absurd q.1 (Int32.not_le.mpr h1)), fun _ => ⟨_, _, _, _, _, hrep, by rw [ht9]; exact hP, va_K.moved hW9.alike hK, hD⟩⟩⟩, hS.F ht9⟩) hS.2.2 dM_key_29
  · skip
    refine lv_iload_n hx hb dM_key_5 rfl (lv_at hl 1 rfl) ?_
    refine lv_aload_n hx hb dM_key_6 rfl (lv_at hl 0 rfl) ?_
    refine va_get (D := (dC, dI)) (ci := 1) (v := .int (nI wn)) (C := "GroupRowsModel") (T := FM) (N := 11) hx hb hta inM hown hK hP 0 rfl rfl 1 (by decide) (hta _ w279) (fun _ h9 => h9) rfl dM_key_7 ?_
    refine lv_icmp_lt (tgt := 17) hx hb dM_key_10 (by decide) (fun h2 => ?_) (fun h2 => ?_)
    · skip
      refine lv_iconst (v := 0) hx hb dM_key_17 (by decide) ?_
      refine va_put (D := (dC, dI)) (ci := 1) (v := .int 0) (ty := .int) (C := "GroupRowsModel") (T := FM) (N := 11) hx hb hta inM tM tMok nM hown hK hP hD hS 0 rfl rfl 0 (by decide) (hta _ w278) (fun _ h9 => h9) rfl (by decide +kernel) rfl rfl (Nat.le_of_ble_eq_true rfl) dM_key_18 (fun H locs hP hD hS => ?_)
      have hP : va_P (dC, dI) classes (wM b d 0 (nI wn) (nI mn) (nI T.1) ks2 ct2 sm2 le2 gr2 fk fa) H := hP
      have hD : va_D A (wM b d 0 (nI wn) (nI mn) (nI T.1) ks2 ct2 sm2 le2 gr2 fk fa) := hD
      refine lv_aload_n hx hb dM_key_21 rfl (lv_at hl 0 rfl) ?_
      refine va_get (D := (dC, dI)) (ci := 1) (v := .int 0) (C := "GroupRowsModel") (T := FM) (N := 11) hx hb hta inM hown hK hP 0 rfl rfl 0 (by decide) (hta _ w278) (fun _ h9 => h9) rfl dM_key_22 ?_
      refine lv_if_le (tgt := 30) hx hb dM_key_25 (by decide) (fun hz => ?_) (fun hz => ?_)
      rotate_left
      · skip
        exact absurd (by decide) hz
      · skip
        have hL : 0 ≤ i ∧ i < nI wn := ⟨Int32.not_lt.mp h1, h2⟩
        obtain ⟨j, hj, ej, cj⟩ := in_nI (by omega) hL
        subst ej
        refine lv_aload_n hx hb dM_key_30 rfl (lv_at hl 0 rfl) ?_
        refine va_get (D := (dC, dI)) (ci := 1) (v := .ref (b 6)) (C := "GroupRowsModel") (T := FM) (N := 11) hx hb hta inM hown hK hP 0 rfl rfl 9 (by decide) (hta _ w287) (fun _ h9 => h9) rfl dM_key_31 ?_
        refine lv_iload_n hx hb dM_key_34 rfl (lv_at hl 1 rfl) ?_
        refine gi_iald hx hb hK hP 6 5 rfl rfl (k := j) (by omega) (by decide) dM_key_35 ?_
        refine lv_istore_n (lv' := [(3, .int (fk j)), (0, .ref (b 0)), (1, .int (nI j)), (2, .int v)]) hx hb dM_key_36 rfl hl (by decide) rfl (fun ls hl => ?_)
        refine lv_aload_n hx hb dM_key_37 rfl (lv_at hl 1 rfl) ?_
        refine va_get (D := (dC, dI)) (ci := 1) (v := .ref (b 6)) (C := "GroupRowsModel") (T := FM) (N := 11) hx hb hta inM hown hK hP 0 rfl rfl 9 (by decide) (hta _ w287) (fun _ h9 => h9) rfl dM_key_38 ?_
        refine lv_iload_n hx hb dM_key_41 rfl (lv_at hl 2 rfl) ?_
        refine lv_iload_n hx hb dM_key_42 rfl (lv_at hl 3 rfl) ?_
        refine gi_iast hx hb hK hP hD hS 6 5 rfl rfl (k := j) (by omega) (by decide) dM_key_43 (fun H locs hP hD hS => ?_)
        have hP : va_P (dC, dI) classes (wM b d 0 (nI wn) (nI mn) (nI T.1) ks2 ct2 sm2 le2 gr2 (upd fk j v) fa) H := hP
        have hD : va_D A (wM b d 0 (nI wn) (nI mn) (nI T.1) ks2 ct2 sm2 le2 gr2 (upd fk j v) fa) := hD
        refine lv_iload_n hx hb dM_key_44 rfl (lv_at hl 0 rfl) ?_
        exact W.iret (v := (fk j)) hx hb hr (fun t9 ht9 hW9 => ⟨⟨(fk j), (), rfl, by rw [if_pos hL, cj], ⟨fun _ => by rw [cj]; exact ⟨_, _, _, _, _, hrep, by rw [ht9]; exact hP, va_K.moved hW9.alike hK, hD⟩, fun h9 => absurd (hL) h9⟩⟩, hS.F ht9⟩) hS.2.2 dM_key_45
    · skip
      refine lv_iconst (v := 1) hx hb dM_key_13 (by decide) ?_
      refine lv_goto (tgt := 18) hx hb dM_key_14 (by decide) ?_
      refine va_put (D := (dC, dI)) (ci := 1) (v := .int 1) (ty := .int) (C := "GroupRowsModel") (T := FM) (N := 11) hx hb hta inM tM tMok nM hown hK hP hD hS 0 rfl rfl 0 (by decide) (hta _ w278) (fun _ h9 => h9) rfl (by decide +kernel) rfl rfl (Nat.le_of_ble_eq_true rfl) dM_key_18 (fun H locs hP hD hS => ?_)
      have hP : va_P (dC, dI) classes (wM b d 1 (nI wn) (nI mn) (nI T.1) ks2 ct2 sm2 le2 gr2 fk fa) H := hP
      have hD : va_D A (wM b d 1 (nI wn) (nI mn) (nI T.1) ks2 ct2 sm2 le2 gr2 fk fa) := hD
      refine lv_aload_n hx hb dM_key_21 rfl (lv_at hl 0 rfl) ?_
      refine va_get (D := (dC, dI)) (ci := 1) (v := .int 1) (C := "GroupRowsModel") (T := FM) (N := 11) hx hb hta inM hown hK hP 0 rfl rfl 0 (by decide) (hta _ w278) (fun _ h9 => h9) rfl dM_key_22 ?_
      refine lv_if_le (tgt := 30) hx hb dM_key_25 (by decide) (fun hz => ?_) (fun hz => ?_)
      · skip
        exact absurd hz (by decide)
      · skip
        refine lv_iconst (v := 0) hx hb dM_key_28 (by decide) ?_
        exact W.iret (v := 0) hx hb hr (fun t9 ht9 hW9 => ⟨⟨0, (), rfl, (if_neg (fun q => h2 q.2)).symm, ⟨fun h9 => absurd h9 (fun q => h2 q.2), fun _ => ⟨_, _, _, _, _, hrep, by rw [ht9]; exact hP, va_K.moved hW9.alike hK, hD⟩⟩⟩, hS.F ht9⟩) hS.2.2 dM_key_29
set_option maxHeartbeats 4000000 in
set_option maxRecDepth 100000 in
theorem c_Mamount (l : Launch) (dC : Nat → ClassId) (dI : Nat → Nat → Nat) (b : Nat → Nat) (d : Nat → ClassId) (cd : Int32) (wn mn : Nat) (fk : Nat → Int32) (fa : Nat → Int64) (T : TB) (ks2 : Nat → Int32) (ct2 sm2 le2 gr2 : Nat → Int64) (hrep : repT (fun p => p) wn mn T ks2 ct2 sm2 le2 gr2) (m0 : Int32) (v : Int64) (sz : Nat)  : Met l yM_amount (Cond.code yM_amount bM_amount 6 (some .long) :: wAll) { frames := 3, cells := 0, slots := 0, locals := 128 } (va_Pc [.ref (b 0), .int m0, .long v] (fun U => U.heap.size = sz ∧ va_P (dC, dI) classes (wM b d cd (nI wn) (nI mn) (nI T.1) ks2 ct2 sm2 le2 gr2 fk fa) U.heap ∧ va_K (dC, dI) classes (kM d) U ∧ va_D (fun _ => True) (wM b d cd (nI wn) (nI mn) (nI T.1) ks2 ct2 sm2 le2 gr2 fk fa))) (va_Ql (fun (r9 : Int64) (_ : Unit) => r9 = (if 0 ≤ m0 ∧ m0 < nI mn then fa m0.toNatClampNeg else 0)) (fun (_ : Unit) (t9 : State) => ((0 ≤ m0 ∧ m0 < nI mn) → atM dC dI (va_A (wM b d cd (nI wn) (nI mn) (nI T.1) ks2 ct2 sm2 le2 gr2 fk fa) sz) b d 0 wn mn fk (vp_updL fa m0.toNatClampNeg v) T t9) ∧ (¬ (0 ≤ m0 ∧ m0 < nI mn) → atM dC dI (va_A (wM b d cd (nI wn) (nI mn) (nI T.1) ks2 ct2 sm2 le2 gr2 fk fa) sz) b d 1 wn mn fk fa T t9)) (va_A (wM b d cd (nI wn) (nI mn) (nI T.1) ks2 ct2 sm2 le2 gr2 fk fa) sz)) 0 0 (va_A (wM b d cd (nI wn) (nI mn) (nI T.1) ks2 ct2 sm2 le2 gr2 fk fa) sz) := by
  refine Met.ofW (cc := bM_amount) (maxL := 6) (ret := (some .long)) (by decide) rfl ?_
  intro p e s m args below meth c s₁ B hml hv
  obtain ⟨rfl, hsz, hP, hK, hD0⟩ := hv
  have hx := B.exec
  have hb := B.bytes
  have hr := B.returns
  have hta : ∀ w ∈ wAll, w.before ([.ref (b 0), .int m0, .long v] : List Value).toArray s = true := fun w h => atoms_spec (ws := (Cond.code yM_amount bM_amount 6 (some .long) :: wAll)) B.pre w (List.mem_cons_of_mem _ h)
  have hown : s.vm.findClass "GroupRowsModel" = some m.cls := findClass_of_methodNamed B.named
  have hlocks := B.notSynchronized
  subst hsz
  have hD := hD0.self (sz := s.heap.size)
  generalize hAe : va_A (wM b d cd (nI wn) (nI mn) (nI T.1) ks2 ct2 sm2 le2 gr2 fk fa) s.heap.size = A at hD ⊢
  have hA : ∀ q : Nat, s.heap.size ≤ q → A q := fun q h => by rw [← hAe]; exact Or.inr h
  have hS : va_S A s.heap s.heap [] := va_S.rf
  have hP : va_P (dC, dI) classes (wM b d cd (nI wn) (nI mn) (nI T.1) ks2 ct2 sm2 le2 gr2 fk fa) s.heap := hP
  have hl := lv_entry ([.ref (b 0), .int m0, .long v]) (n := 6) (Nat.le_of_ble_eq_true rfl)
  rw [lg_entry_eq]
  generalize (lg_sl ([.ref (b 0), .int m0, .long v]) ++ List.replicate (6 - (lg_sl ([.ref (b 0), .int m0, .long v])).length) Slot.unset).toArray = ls at hl ⊢
  have hl : lv_has ls 6 [(0, .ref (b 0)), (1, .int m0), (2, .long v)] := hl
  obtain ⟨⟨hwn, hmn1, hmn, hn⟩, hk9, hc9, hv9, hs9⟩ := id hrep
  refine lv_aload_n hx hb dM_amount_0 rfl (lv_at hl 0 rfl) ?_
  refine lv_iload_n hx hb dM_amount_1 rfl (lv_at hl 1 rfl) ?_
  refine lv_if_lt (tgt := 13) hx hb dM_amount_2 (by decide) (fun h1 => ?_) (fun h1 => ?_)
  · skip
    refine lv_iconst (v := 1) hx hb dM_amount_13 (by decide) ?_
    refine lv_goto (tgt := 18) hx hb dM_amount_14 (by decide) ?_
    refine va_put (D := (dC, dI)) (ci := 1) (v := .int 1) (ty := .int) (C := "GroupRowsModel") (T := FM) (N := 11) hx hb hta inM tM tMok nM hown hK hP hD hS 0 rfl rfl 0 (by decide) (hta _ w278) (fun _ h9 => h9) rfl (by decide +kernel) rfl rfl (Nat.le_of_ble_eq_true rfl) dM_amount_18 (fun H locs hP hD hS => ?_)
    have hP : va_P (dC, dI) classes (wM b d 1 (nI wn) (nI mn) (nI T.1) ks2 ct2 sm2 le2 gr2 fk fa) H := hP
    have hD : va_D A (wM b d 1 (nI wn) (nI mn) (nI T.1) ks2 ct2 sm2 le2 gr2 fk fa) := hD
    refine lv_aload_n hx hb dM_amount_21 rfl (lv_at hl 0 rfl) ?_
    refine va_get (D := (dC, dI)) (ci := 1) (v := .int 1) (C := "GroupRowsModel") (T := FM) (N := 11) hx hb hta inM hown hK hP 0 rfl rfl 0 (by decide) (hta _ w278) (fun _ h9 => h9) rfl dM_amount_22 ?_
    refine lv_if_le (tgt := 30) hx hb dM_amount_25 (by decide) (fun hz => ?_) (fun hz => ?_)
    · skip
      exact absurd hz (by decide)
    · skip
      refine lv_lconst (v := 0) hx hb dM_amount_28 (by decide) ?_
      exact W.lret (v := 0) hx hb hr (fun t9 ht9 hW9 => ⟨⟨0, (), rfl, (if_neg (fun q => absurd q.1 (Int32.not_le.mpr h1))).symm, ⟨fun h9 => absurd h9 (fun q => absurd q.1 (Int32.not_le.mpr h1)), fun _ => ⟨_, _, _, _, _, hrep, by rw [ht9]; exact hP, va_K.moved hW9.alike hK, hD⟩⟩⟩, hS.F ht9⟩) hS.2.2 dM_amount_29
  · skip
    refine lv_iload_n hx hb dM_amount_5 rfl (lv_at hl 1 rfl) ?_
    refine lv_aload_n hx hb dM_amount_6 rfl (lv_at hl 0 rfl) ?_
    refine va_get (D := (dC, dI)) (ci := 1) (v := .int (nI mn)) (C := "GroupRowsModel") (T := FM) (N := 11) hx hb hta inM hown hK hP 0 rfl rfl 2 (by decide) (hta _ w280) (fun _ h9 => h9) rfl dM_amount_7 ?_
    refine lv_icmp_lt (tgt := 17) hx hb dM_amount_10 (by decide) (fun h2 => ?_) (fun h2 => ?_)
    · skip
      refine lv_iconst (v := 0) hx hb dM_amount_17 (by decide) ?_
      refine va_put (D := (dC, dI)) (ci := 1) (v := .int 0) (ty := .int) (C := "GroupRowsModel") (T := FM) (N := 11) hx hb hta inM tM tMok nM hown hK hP hD hS 0 rfl rfl 0 (by decide) (hta _ w278) (fun _ h9 => h9) rfl (by decide +kernel) rfl rfl (Nat.le_of_ble_eq_true rfl) dM_amount_18 (fun H locs hP hD hS => ?_)
      have hP : va_P (dC, dI) classes (wM b d 0 (nI wn) (nI mn) (nI T.1) ks2 ct2 sm2 le2 gr2 fk fa) H := hP
      have hD : va_D A (wM b d 0 (nI wn) (nI mn) (nI T.1) ks2 ct2 sm2 le2 gr2 fk fa) := hD
      refine lv_aload_n hx hb dM_amount_21 rfl (lv_at hl 0 rfl) ?_
      refine va_get (D := (dC, dI)) (ci := 1) (v := .int 0) (C := "GroupRowsModel") (T := FM) (N := 11) hx hb hta inM hown hK hP 0 rfl rfl 0 (by decide) (hta _ w278) (fun _ h9 => h9) rfl dM_amount_22 ?_
      refine lv_if_le (tgt := 30) hx hb dM_amount_25 (by decide) (fun hz => ?_) (fun hz => ?_)
      rotate_left
      · skip
        exact absurd (by decide) hz
      · skip
        have hL : 0 ≤ m0 ∧ m0 < nI mn := ⟨Int32.not_lt.mp h1, h2⟩
        obtain ⟨j, hj, ej, cj⟩ := in_nI (by omega) hL
        subst ej
        refine lv_aload_n hx hb dM_amount_30 rfl (lv_at hl 0 rfl) ?_
        refine va_get (D := (dC, dI)) (ci := 1) (v := .ref (b 7)) (C := "GroupRowsModel") (T := FM) (N := 11) hx hb hta inM hown hK hP 0 rfl rfl 10 (by decide) (hta _ w288) (fun _ h9 => h9) rfl dM_amount_31 ?_
        refine lv_iload_n hx hb dM_amount_34 rfl (lv_at hl 1 rfl) ?_
        refine gi_lald hx hb hK hP 7 6 rfl rfl (k := j) (by omega) (by decide) dM_amount_35 ?_
        refine lv_lstore (lv' := [(4, .long (fa j)), (0, .ref (b 0)), (1, .int (nI j)), (2, .long v)]) hx hb dM_amount_36 hl (by decide) rfl (fun ls hl => ?_)
        refine lv_aload_n hx hb dM_amount_38 rfl (lv_at hl 1 rfl) ?_
        refine va_get (D := (dC, dI)) (ci := 1) (v := .ref (b 7)) (C := "GroupRowsModel") (T := FM) (N := 11) hx hb hta inM hown hK hP 0 rfl rfl 10 (by decide) (hta _ w288) (fun _ h9 => h9) rfl dM_amount_39 ?_
        refine lv_iload_n hx hb dM_amount_42 rfl (lv_at hl 2 rfl) ?_
        refine lv_lload_n hx hb dM_amount_43 rfl (lv_at hl 3 rfl) ?_
        refine gi_last hx hb hK hP hD hS 7 6 rfl rfl (k := j) (by omega) (by decide) dM_amount_44 (fun H locs hP hD hS => ?_)
        have hP : va_P (dC, dI) classes (wM b d 0 (nI wn) (nI mn) (nI T.1) ks2 ct2 sm2 le2 gr2 fk (vp_updL fa j v)) H := hP
        have hD : va_D A (wM b d 0 (nI wn) (nI mn) (nI T.1) ks2 ct2 sm2 le2 gr2 fk (vp_updL fa j v)) := hD
        refine lv_lload hx hb dM_amount_45 (lv_at hl 0 rfl) ?_
        exact W.lret (v := (fa j)) hx hb hr (fun t9 ht9 hW9 => ⟨⟨(fa j), (), rfl, by rw [if_pos hL, cj], ⟨fun _ => by rw [cj]; exact ⟨_, _, _, _, _, hrep, by rw [ht9]; exact hP, va_K.moved hW9.alike hK, hD⟩, fun h9 => absurd (hL) h9⟩⟩, hS.F ht9⟩) hS.2.2 dM_amount_47
    · skip
      refine lv_iconst (v := 1) hx hb dM_amount_13 (by decide) ?_
      refine lv_goto (tgt := 18) hx hb dM_amount_14 (by decide) ?_
      refine va_put (D := (dC, dI)) (ci := 1) (v := .int 1) (ty := .int) (C := "GroupRowsModel") (T := FM) (N := 11) hx hb hta inM tM tMok nM hown hK hP hD hS 0 rfl rfl 0 (by decide) (hta _ w278) (fun _ h9 => h9) rfl (by decide +kernel) rfl rfl (Nat.le_of_ble_eq_true rfl) dM_amount_18 (fun H locs hP hD hS => ?_)
      have hP : va_P (dC, dI) classes (wM b d 1 (nI wn) (nI mn) (nI T.1) ks2 ct2 sm2 le2 gr2 fk fa) H := hP
      have hD : va_D A (wM b d 1 (nI wn) (nI mn) (nI T.1) ks2 ct2 sm2 le2 gr2 fk fa) := hD
      refine lv_aload_n hx hb dM_amount_21 rfl (lv_at hl 0 rfl) ?_
      refine va_get (D := (dC, dI)) (ci := 1) (v := .int 1) (C := "GroupRowsModel") (T := FM) (N := 11) hx hb hta inM hown hK hP 0 rfl rfl 0 (by decide) (hta _ w278) (fun _ h9 => h9) rfl dM_amount_22 ?_
      refine lv_if_le (tgt := 30) hx hb dM_amount_25 (by decide) (fun hz => ?_) (fun hz => ?_)
      · skip
        exact absurd hz (by decide)
      · skip
        refine lv_lconst (v := 0) hx hb dM_amount_28 (by decide) ?_
        exact W.lret (v := 0) hx hb hr (fun t9 ht9 hW9 => ⟨⟨0, (), rfl, (if_neg (fun q => h2 q.2)).symm, ⟨fun h9 => absurd h9 (fun q => h2 q.2), fun _ => ⟨_, _, _, _, _, hrep, by rw [ht9]; exact hP, va_K.moved hW9.alike hK, hD⟩⟩⟩, hS.F ht9⟩) hS.2.2 dM_amount_29
set_option maxHeartbeats 4000000 in
set_option maxRecDepth 100000 in
theorem c_Mbegin (l : Launch) (dC : Nat → ClassId) (dI : Nat → Nat → Nat) (b : Nat → Nat) (d : Nat → ClassId) (cd : Int32) (wn mn : Nat) (fk : Nat → Int32) (fa : Nat → Int64) (T : TB) (ks2 : Nat → Int32) (ct2 sm2 le2 gr2 : Nat → Int64) (hrep : repT (fun p => p) wn mn T ks2 ct2 sm2 le2 gr2) (w0 m0 : Int32) (sz : Nat)  : Met l yM_begin (Cond.code yM_begin bM_begin 4 none :: wAll) { frames := 3, cells := 0, slots := 0, locals := 128 } (va_Pc [.ref (b 0), .int w0, .int m0] (fun U => U.heap.size = sz ∧ va_P (dC, dI) classes (wM b d cd (nI wn) (nI mn) (nI T.1) ks2 ct2 sm2 le2 gr2 fk fa) U.heap ∧ va_K (dC, dI) classes (kM d) U ∧ va_D (fun _ => True) (wM b d cd (nI wn) (nI mn) (nI T.1) ks2 ct2 sm2 le2 gr2 fk fa))) (va_Qv (fun _ : Unit => True) (fun (_ : Unit) (t9 : State) => (((0 ≤ w0 ∧ w0 ≤ 8) ∧ 1 ≤ m0 ∧ m0 ≤ 8) → atM dC dI (va_A (wM b d cd (nI wn) (nI mn) (nI T.1) ks2 ct2 sm2 le2 gr2 fk fa) sz) b d 0 w0.toNatClampNeg m0.toNatClampNeg (upToI (fun _ _ => 0) 0 fk 8) (upTo (fun _ _ => 0) 0 fa 8) (0, T.2) t9) ∧ (¬ ((0 ≤ w0 ∧ w0 ≤ 8) ∧ 1 ≤ m0 ∧ m0 ≤ 8) → atM dC dI (va_A (wM b d cd (nI wn) (nI mn) (nI T.1) ks2 ct2 sm2 le2 gr2 fk fa) sz) b d 1 wn mn fk fa T t9)) (va_A (wM b d cd (nI wn) (nI mn) (nI T.1) ks2 ct2 sm2 le2 gr2 fk fa) sz)) 0 0 (va_A (wM b d cd (nI wn) (nI mn) (nI T.1) ks2 ct2 sm2 le2 gr2 fk fa) sz) := by
  refine Met.ofW (cc := bM_begin) (maxL := 4) (ret := none) (by decide) rfl ?_
  intro p e s m args below meth c s₁ B hml hv
  obtain ⟨rfl, hsz, hP, hK, hD0⟩ := hv
  have hx := B.exec
  have hb := B.bytes
  have hr := B.returns
  have hta : ∀ w ∈ wAll, w.before ([.ref (b 0), .int w0, .int m0] : List Value).toArray s = true := fun w h => atoms_spec (ws := (Cond.code yM_begin bM_begin 4 none :: wAll)) B.pre w (List.mem_cons_of_mem _ h)
  have hown : s.vm.findClass "GroupRowsModel" = some m.cls := findClass_of_methodNamed B.named
  have hlocks := B.notSynchronized
  subst hsz
  have hD := hD0.self (sz := s.heap.size)
  generalize hAe : va_A (wM b d cd (nI wn) (nI mn) (nI T.1) ks2 ct2 sm2 le2 gr2 fk fa) s.heap.size = A at hD ⊢
  have hA : ∀ q : Nat, s.heap.size ≤ q → A q := fun q h => by rw [← hAe]; exact Or.inr h
  have hS : va_S A s.heap s.heap [] := va_S.rf
  have hP : va_P (dC, dI) classes (wM b d cd (nI wn) (nI mn) (nI T.1) ks2 ct2 sm2 le2 gr2 fk fa) s.heap := hP
  have hl := lv_entry ([.ref (b 0), .int w0, .int m0]) (n := 4) (Nat.le_of_ble_eq_true rfl)
  rw [lg_entry_eq]
  generalize (lg_sl ([.ref (b 0), .int w0, .int m0]) ++ List.replicate (4 - (lg_sl ([.ref (b 0), .int w0, .int m0])).length) Slot.unset).toArray = ls at hl ⊢
  have hl : lv_has ls 4 [(0, .ref (b 0)), (1, .int w0), (2, .int m0)] := hl
  obtain ⟨⟨hwn, hmn1, hmn, hn⟩, hk9, hc9, hv9, hs9⟩ := id hrep
  refine lv_aload_n hx hb dM_begin_0 rfl (lv_at hl 0 rfl) ?_
  refine lv_iload_n hx hb dM_begin_1 rfl (lv_at hl 1 rfl) ?_
  refine lv_if_lt (tgt := 22) hx hb dM_begin_2 (by decide) (fun h1 => ?_) (fun h1 => ?_)
  · skip
    refine lv_iconst (v := 1) hx hb dM_begin_22 (by decide) ?_
    refine lv_goto (tgt := 27) hx hb dM_begin_23 (by decide) ?_
    refine va_put (D := (dC, dI)) (ci := 1) (v := .int 1) (ty := .int) (C := "GroupRowsModel") (T := FM) (N := 11) hx hb hta inM tM tMok nM hown hK hP hD hS 0 rfl rfl 0 (by decide) (hta _ w278) (fun _ h9 => h9) rfl (by decide +kernel) rfl rfl (Nat.le_of_ble_eq_true rfl) dM_begin_27 (fun H locs hP hD hS => ?_)
    have hP : va_P (dC, dI) classes (wM b d 1 (nI wn) (nI mn) (nI T.1) ks2 ct2 sm2 le2 gr2 fk fa) H := hP
    have hD : va_D A (wM b d 1 (nI wn) (nI mn) (nI T.1) ks2 ct2 sm2 le2 gr2 fk fa) := hD
    refine lv_aload_n hx hb dM_begin_30 rfl (lv_at hl 0 rfl) ?_
    refine va_get (D := (dC, dI)) (ci := 1) (v := .int 1) (C := "GroupRowsModel") (T := FM) (N := 11) hx hb hta inM hown hK hP 0 rfl rfl 0 (by decide) (hta _ w278) (fun _ h9 => h9) rfl dM_begin_31 ?_
    refine lv_if_le (tgt := 38) hx hb dM_begin_34 (by decide) (fun hz => ?_) (fun hz => ?_)
    · skip
      exact absurd hz (by decide)
    · skip
      exact W.vret hx hb hr (fun t9 ht9 hW9 => ⟨⟨(), rfl, trivial, ⟨fun h9 => absurd h9 (fun q => absurd q.1.1 (Int32.not_le.mpr h1)), fun _ => ⟨_, _, _, _, _, hrep, by rw [ht9]; exact hP, va_K.moved hW9.alike hK, hD⟩⟩⟩, hS.F ht9⟩) hS.2.2 dM_begin_37
  · skip
    refine lv_iload_n hx hb dM_begin_5 rfl (lv_at hl 1 rfl) ?_
    refine lv_bipush (v := 8) hx hb dM_begin_6 (by decide) ?_
    refine lv_icmp_gt (tgt := 22) hx hb dM_begin_8 (by decide) (fun h2 => ?_) (fun h2 => ?_)
    · skip
      refine lv_iconst (v := 1) hx hb dM_begin_22 (by decide) ?_
      refine lv_goto (tgt := 27) hx hb dM_begin_23 (by decide) ?_
      refine va_put (D := (dC, dI)) (ci := 1) (v := .int 1) (ty := .int) (C := "GroupRowsModel") (T := FM) (N := 11) hx hb hta inM tM tMok nM hown hK hP hD hS 0 rfl rfl 0 (by decide) (hta _ w278) (fun _ h9 => h9) rfl (by decide +kernel) rfl rfl (Nat.le_of_ble_eq_true rfl) dM_begin_27 (fun H locs hP hD hS => ?_)
      have hP : va_P (dC, dI) classes (wM b d 1 (nI wn) (nI mn) (nI T.1) ks2 ct2 sm2 le2 gr2 fk fa) H := hP
      have hD : va_D A (wM b d 1 (nI wn) (nI mn) (nI T.1) ks2 ct2 sm2 le2 gr2 fk fa) := hD
      refine lv_aload_n hx hb dM_begin_30 rfl (lv_at hl 0 rfl) ?_
      refine va_get (D := (dC, dI)) (ci := 1) (v := .int 1) (C := "GroupRowsModel") (T := FM) (N := 11) hx hb hta inM hown hK hP 0 rfl rfl 0 (by decide) (hta _ w278) (fun _ h9 => h9) rfl dM_begin_31 ?_
      refine lv_if_le (tgt := 38) hx hb dM_begin_34 (by decide) (fun hz => ?_) (fun hz => ?_)
      · skip
        exact absurd hz (by decide)
      · skip
        exact W.vret hx hb hr (fun t9 ht9 hW9 => ⟨⟨(), rfl, trivial, ⟨fun h9 => absurd h9 (fun q => absurd q.1.2 (Int32.not_le.mpr h2)), fun _ => ⟨_, _, _, _, _, hrep, by rw [ht9]; exact hP, va_K.moved hW9.alike hK, hD⟩⟩⟩, hS.F ht9⟩) hS.2.2 dM_begin_37
    · skip
      refine lv_iload_n hx hb dM_begin_11 rfl (lv_at hl 2 rfl) ?_
      refine lv_iconst (v := 1) hx hb dM_begin_12 (by decide) ?_
      refine lv_icmp_lt (tgt := 22) hx hb dM_begin_13 (by decide) (fun h3 => ?_) (fun h3 => ?_)
      · skip
        refine lv_iconst (v := 1) hx hb dM_begin_22 (by decide) ?_
        refine lv_goto (tgt := 27) hx hb dM_begin_23 (by decide) ?_
        refine va_put (D := (dC, dI)) (ci := 1) (v := .int 1) (ty := .int) (C := "GroupRowsModel") (T := FM) (N := 11) hx hb hta inM tM tMok nM hown hK hP hD hS 0 rfl rfl 0 (by decide) (hta _ w278) (fun _ h9 => h9) rfl (by decide +kernel) rfl rfl (Nat.le_of_ble_eq_true rfl) dM_begin_27 (fun H locs hP hD hS => ?_)
        have hP : va_P (dC, dI) classes (wM b d 1 (nI wn) (nI mn) (nI T.1) ks2 ct2 sm2 le2 gr2 fk fa) H := hP
        have hD : va_D A (wM b d 1 (nI wn) (nI mn) (nI T.1) ks2 ct2 sm2 le2 gr2 fk fa) := hD
        refine lv_aload_n hx hb dM_begin_30 rfl (lv_at hl 0 rfl) ?_
        refine va_get (D := (dC, dI)) (ci := 1) (v := .int 1) (C := "GroupRowsModel") (T := FM) (N := 11) hx hb hta inM hown hK hP 0 rfl rfl 0 (by decide) (hta _ w278) (fun _ h9 => h9) rfl dM_begin_31 ?_
        refine lv_if_le (tgt := 38) hx hb dM_begin_34 (by decide) (fun hz => ?_) (fun hz => ?_)
        · skip
          exact absurd hz (by decide)
        · skip
          exact W.vret hx hb hr (fun t9 ht9 hW9 => ⟨⟨(), rfl, trivial, ⟨fun h9 => absurd h9 (fun q => absurd q.2.1 (Int32.not_le.mpr h3)), fun _ => ⟨_, _, _, _, _, hrep, by rw [ht9]; exact hP, va_K.moved hW9.alike hK, hD⟩⟩⟩, hS.F ht9⟩) hS.2.2 dM_begin_37
      · skip
        refine lv_iload_n hx hb dM_begin_16 rfl (lv_at hl 2 rfl) ?_
        refine lv_bipush (v := 8) hx hb dM_begin_17 (by decide) ?_
        refine lv_icmp_le (tgt := 26) hx hb dM_begin_19 (by decide) (fun h4 => ?_) (fun h4 => ?_)
        · skip
          refine lv_iconst (v := 0) hx hb dM_begin_26 (by decide) ?_
          refine va_put (D := (dC, dI)) (ci := 1) (v := .int 0) (ty := .int) (C := "GroupRowsModel") (T := FM) (N := 11) hx hb hta inM tM tMok nM hown hK hP hD hS 0 rfl rfl 0 (by decide) (hta _ w278) (fun _ h9 => h9) rfl (by decide +kernel) rfl rfl (Nat.le_of_ble_eq_true rfl) dM_begin_27 (fun H locs hP hD hS => ?_)
          have hP : va_P (dC, dI) classes (wM b d 0 (nI wn) (nI mn) (nI T.1) ks2 ct2 sm2 le2 gr2 fk fa) H := hP
          have hD : va_D A (wM b d 0 (nI wn) (nI mn) (nI T.1) ks2 ct2 sm2 le2 gr2 fk fa) := hD
          refine lv_aload_n hx hb dM_begin_30 rfl (lv_at hl 0 rfl) ?_
          refine va_get (D := (dC, dI)) (ci := 1) (v := .int 0) (C := "GroupRowsModel") (T := FM) (N := 11) hx hb hta inM hown hK hP 0 rfl rfl 0 (by decide) (hta _ w278) (fun _ h9 => h9) rfl dM_begin_31 ?_
          refine lv_if_le (tgt := 38) hx hb dM_begin_34 (by decide) (fun hz => ?_) (fun hz => ?_)
          rotate_left
          · skip
            exact absurd (by decide) hz
          · skip
            have hL : (0 ≤ w0 ∧ w0 ≤ 8) ∧ 1 ≤ m0 ∧ m0 ≤ 8 := ⟨⟨Int32.not_lt.mp h1, Int32.not_lt.mp h2⟩, Int32.not_lt.mp h3, h4⟩
            obtain ⟨j0, hj0, ej0, cj0⟩ := in_le (n := 8) (by decide) hL.1
            obtain ⟨j2, hj2, ej2, cj2⟩ := in_le (n := 8) (by decide) ⟨i32_0le1 hL.2.1, hL.2.2⟩
            subst ej0
            subst ej2
            have hj1 : 1 ≤ j2 := nI_1le (by omega) hL.2.1
            have hr9 : repT (fun p => p) j0 j2 (0, T.2) ks2 ct2 sm2 le2 gr2 := ⟨⟨hj0, hj1, hj2, Nat.zero_le _⟩, fun p hp => absurd hp (Nat.not_lt_zero p), fun p hp => absurd hp (Nat.not_lt_zero p), fun p m hp => absurd hp (Nat.not_lt_zero p), fun p q _ h => absurd h (Nat.not_lt_zero q)⟩
            refine lv_aload_n hx hb dM_begin_38 rfl (lv_at hl 0 rfl) ?_
            refine lv_iload_n hx hb dM_begin_39 rfl (lv_at hl 1 rfl) ?_
            refine va_put (D := (dC, dI)) (ci := 1) (v := .int (nI j0)) (ty := .int) (C := "GroupRowsModel") (T := FM) (N := 11) hx hb hta inM tM tMok nM hown hK hP hD hS 0 rfl rfl 1 (by decide) (hta _ w279) (fun _ h9 => h9) rfl (by decide +kernel) rfl rfl (Nat.le_of_ble_eq_true rfl) dM_begin_40 (fun H locs hP hD hS => ?_)
            have hP : va_P (dC, dI) classes (wM b d 0 (nI j0) (nI mn) (nI T.1) ks2 ct2 sm2 le2 gr2 fk fa) H := hP
            have hD : va_D A (wM b d 0 (nI j0) (nI mn) (nI T.1) ks2 ct2 sm2 le2 gr2 fk fa) := hD
            refine lv_aload_n hx hb dM_begin_43 rfl (lv_at hl 0 rfl) ?_
            refine lv_iload_n hx hb dM_begin_44 rfl (lv_at hl 2 rfl) ?_
            refine va_put (D := (dC, dI)) (ci := 1) (v := .int (nI j2)) (ty := .int) (C := "GroupRowsModel") (T := FM) (N := 11) hx hb hta inM tM tMok nM hown hK hP hD hS 0 rfl rfl 2 (by decide) (hta _ w280) (fun _ h9 => h9) rfl (by decide +kernel) rfl rfl (Nat.le_of_ble_eq_true rfl) dM_begin_45 (fun H locs hP hD hS => ?_)
            have hP : va_P (dC, dI) classes (wM b d 0 (nI j0) (nI j2) (nI T.1) ks2 ct2 sm2 le2 gr2 fk fa) H := hP
            have hD : va_D A (wM b d 0 (nI j0) (nI j2) (nI T.1) ks2 ct2 sm2 le2 gr2 fk fa) := hD
            refine lv_aload_n hx hb dM_begin_48 rfl (lv_at hl 0 rfl) ?_
            refine lv_iconst (v := 0) hx hb dM_begin_49 (by decide) ?_
            refine gi_as (y := nI 0) (nI_0.symm) ?_
            refine va_put (D := (dC, dI)) (ci := 1) (v := .int (nI 0)) (ty := .int) (C := "GroupRowsModel") (T := FM) (N := 11) hx hb hta inM tM tMok nM hown hK hP hD hS 0 rfl rfl 3 (by decide) (hta _ w281) (fun _ h9 => h9) rfl (by decide +kernel) rfl rfl (Nat.le_of_ble_eq_true rfl) dM_begin_50 (fun H locs hP hD hS => ?_)
            have hP : va_P (dC, dI) classes (wM b d 0 (nI j0) (nI j2) (nI 0) ks2 ct2 sm2 le2 gr2 fk fa) H := hP
            have hD : va_D A (wM b d 0 (nI j0) (nI j2) (nI 0) ks2 ct2 sm2 le2 gr2 fk fa) := hD
            refine lv_iconst (v := 0) hx hb dM_begin_53 (by decide) ?_
            refine gi_as (y := nI 0) (nI_0.symm) ?_
            refine lv_istore_n (lv' := [(3, .int (nI 0)), (0, .ref (b 0)), (1, .int (nI j0)), (2, .int (nI j2))]) hx hb dM_begin_54 rfl hl (by decide) rfl (fun ls hl => ?_)
            have loop : ∀ (kk j : Nat), j + kk = 8 → ∀ (H : Heap) (locs : List Loc), va_P (dC, dI) classes (wM b d 0 (nI j0) (nI j2) (nI 0) ks2 ct2 sm2 le2 gr2 (upToI (fun _ _ => 0) 0 fk j) (upTo (fun _ _ => 0) 0 fa j)) H → va_D A (wM b d 0 (nI j0) (nI j2) (nI 0) ks2 ct2 sm2 le2 gr2 (upToI (fun _ _ => 0) 0 fk j) (upTo (fun _ _ => 0) 0 fa j)) → va_S A s.heap H locs → ∀ (ls : Array Slot), lv_has ls 4 [(3, .int (nI j)), (0, .ref (b 0))] → W p l e (headSpec (Cond.code yM_begin bM_begin 4 none :: wAll) { frames := 3, cells := 0, slots := 0, locals := 128 }).room s m ([.ref (b 0), .int (nI j0), .int (nI j2)] : List Value).toArray below meth c H locs 0 0 (MQ below (va_Qv (fun _ : Unit => True) (fun (_ : Unit) (t9 : State) => (((0 ≤ nI j0 ∧ nI j0 ≤ 8) ∧ 1 ≤ nI j2 ∧ nI j2 ≤ 8) → atM dC dI A b d 0 (nI j0).toNatClampNeg (nI j2).toNatClampNeg (upToI (fun _ _ => 0) 0 fk 8) (upTo (fun _ _ => 0) 0 fa 8) (0, T.2) t9) ∧ (¬ ((0 ≤ nI j0 ∧ nI j0 ≤ 8) ∧ 1 ≤ nI j2 ∧ nI j2 ≤ 8) → atM dC dI A b d 1 wn mn fk fa T t9)) A) ([.ref (b 0), .int (nI j0), .int (nI j2)] : List Value).toArray s 0 0 A) (F0 m 55 ls []) := by
              intro kk
              induction kk with
              | zero =>
                intro j hj H locs hP hD hS ls hl
                refine lv_iload_n hx hb dM_begin_55 rfl (lv_at hl 0 rfl) ?_
                refine lv_bipush (v := 8) hx hb dM_begin_56 (by decide) ?_
                refine gi_as (y := nI 8) (rfl) ?_
                refine lv_icmp_ge (tgt := 81) hx hb dM_begin_58 (by decide) (fun h9 => ?_) (fun h9 => ?_)
                · skip
                  have hj : 8 = j := by omega
                  subst hj
                  exact W.vret hx hb hr (fun t9 ht9 hW9 => ⟨⟨(), rfl, trivial, ⟨fun _ => by rw [cj0, cj2]; exact ⟨_, _, _, _, _, hr9, by rw [ht9]; exact hP, va_K.moved hW9.alike hK, hD⟩, fun h9 => absurd (hL) h9⟩⟩, hS.F ht9⟩) hS.2.2 dM_begin_81
                · skip
                  exact absurd (nI_le (by omega) (by omega)) h9
              | succ kk ih =>
                intro j hj H locs hP hD hS ls hl
                refine lv_iload_n hx hb dM_begin_55 rfl (lv_at hl 0 rfl) ?_
                refine lv_bipush (v := 8) hx hb dM_begin_56 (by decide) ?_
                refine gi_as (y := nI 8) (rfl) ?_
                refine lv_icmp_ge (tgt := 81) hx hb dM_begin_58 (by decide) (fun h9 => ?_) (fun h9 => ?_)
                · skip
                  exact absurd h9 (nI_ge (a := j) (by omega) (by omega))
                · skip
                  have e0 : j = 0 + j := by omega
                  refine lv_aload_n hx hb dM_begin_61 rfl (lv_at hl 1 rfl) ?_
                  refine va_get (D := (dC, dI)) (ci := 1) (v := .ref (b 6)) (C := "GroupRowsModel") (T := FM) (N := 11) hx hb hta inM hown hK hP 0 rfl rfl 9 (by decide) (hta _ w287) (fun _ h9 => h9) rfl dM_begin_62 ?_
                  refine lv_iload_n hx hb dM_begin_65 rfl (lv_at hl 0 rfl) ?_
                  refine gi_as (y := nI (0 + j)) (by rw [← e0]) ?_
                  refine lv_iconst (v := 0) hx hb dM_begin_66 (by decide) ?_
                  refine gi_iast hx hb hK hP hD hS 6 5 rfl rfl (k := (0 + j)) (by omega) (by decide) dM_begin_67 (fun H locs hP hD hS => ?_)
                  have hP : va_P (dC, dI) classes (wM b d 0 (nI j0) (nI j2) (nI 0) ks2 ct2 sm2 le2 gr2 (upd (upToI (fun _ _ => 0) 0 fk j) (0 + j) 0) (upTo (fun _ _ => 0) 0 fa j)) H := hP
                  have hD : va_D A (wM b d 0 (nI j0) (nI j2) (nI 0) ks2 ct2 sm2 le2 gr2 (upd (upToI (fun _ _ => 0) 0 fk j) (0 + j) 0) (upTo (fun _ _ => 0) 0 fa j)) := hD
                  refine lv_aload_n hx hb dM_begin_68 rfl (lv_at hl 1 rfl) ?_
                  refine va_get (D := (dC, dI)) (ci := 1) (v := .ref (b 7)) (C := "GroupRowsModel") (T := FM) (N := 11) hx hb hta inM hown hK hP 0 rfl rfl 10 (by decide) (hta _ w288) (fun _ h9 => h9) rfl dM_begin_69 ?_
                  refine lv_iload_n hx hb dM_begin_72 rfl (lv_at hl 0 rfl) ?_
                  refine gi_as (y := nI (0 + j)) (by rw [← e0]) ?_
                  refine lv_lconst (v := 0) hx hb dM_begin_73 (by decide) ?_
                  refine gi_last hx hb hK hP hD hS 7 6 rfl rfl (k := (0 + j)) (by omega) (by decide) dM_begin_74 (fun H locs hP hD hS => ?_)
                  have hP : va_P (dC, dI) classes (wM b d 0 (nI j0) (nI j2) (nI 0) ks2 ct2 sm2 le2 gr2 (upd (upToI (fun _ _ => 0) 0 fk j) (0 + j) 0) (vp_updL (upTo (fun _ _ => 0) 0 fa j) (0 + j) 0)) H := hP
                  have hD : va_D A (wM b d 0 (nI j0) (nI j2) (nI 0) ks2 ct2 sm2 le2 gr2 (upd (upToI (fun _ _ => 0) 0 fk j) (0 + j) 0) (vp_updL (upTo (fun _ _ => 0) 0 fa j) (0 + j) 0)) := hD
                  refine lv_iinc (v := (nI (j + 1))) (lv' := [(3, .int (nI (j + 1))), (0, .ref (b 0))]) hx hb dM_begin_75 hl (k := 0) rfl (nI_1 _) (by decide) rfl (fun ls hl => ?_)
                  refine lv_goto (tgt := 55) hx hb dM_begin_78 (by decide) ?_
                  have hl := lv_sub hl [0, 1] rfl
                  have hl : lv_has ls 4 [(3, .int (nI (j + 1))), (0, .ref (b 0))] := hl
                  exact ih (j + 1) (by omega) H locs hP hD hS ls hl
            have hl := lv_sub hl [0, 1] rfl
            have hl : lv_has ls 4 [(3, .int (nI 0)), (0, .ref (b 0))] := hl
            exact loop 8 0 (by omega) H locs hP hD hS ls hl
        · skip
          refine lv_iconst (v := 1) hx hb dM_begin_22 (by decide) ?_
          refine lv_goto (tgt := 27) hx hb dM_begin_23 (by decide) ?_
          refine va_put (D := (dC, dI)) (ci := 1) (v := .int 1) (ty := .int) (C := "GroupRowsModel") (T := FM) (N := 11) hx hb hta inM tM tMok nM hown hK hP hD hS 0 rfl rfl 0 (by decide) (hta _ w278) (fun _ h9 => h9) rfl (by decide +kernel) rfl rfl (Nat.le_of_ble_eq_true rfl) dM_begin_27 (fun H locs hP hD hS => ?_)
          have hP : va_P (dC, dI) classes (wM b d 1 (nI wn) (nI mn) (nI T.1) ks2 ct2 sm2 le2 gr2 fk fa) H := hP
          have hD : va_D A (wM b d 1 (nI wn) (nI mn) (nI T.1) ks2 ct2 sm2 le2 gr2 fk fa) := hD
          refine lv_aload_n hx hb dM_begin_30 rfl (lv_at hl 0 rfl) ?_
          refine va_get (D := (dC, dI)) (ci := 1) (v := .int 1) (C := "GroupRowsModel") (T := FM) (N := 11) hx hb hta inM hown hK hP 0 rfl rfl 0 (by decide) (hta _ w278) (fun _ h9 => h9) rfl dM_begin_31 ?_
          refine lv_if_le (tgt := 38) hx hb dM_begin_34 (by decide) (fun hz => ?_) (fun hz => ?_)
          · skip
            exact absurd hz (by decide)
          · skip
            exact W.vret hx hb hr (fun t9 ht9 hW9 => ⟨⟨(), rfl, trivial, ⟨fun h9 => absurd h9 (fun q => h4 q.2.2), fun _ => ⟨_, _, _, _, _, hrep, by rw [ht9]; exact hP, va_K.moved hW9.alike hK, hD⟩⟩⟩, hS.F ht9⟩) hS.2.2 dM_begin_37
set_option maxHeartbeats 4000000 in
set_option maxRecDepth 100000 in
theorem c_Madd (l : Launch) (dC : Nat → ClassId) (dI : Nat → Nat → Nat) (b : Nat → Nat) (d : Nat → ClassId) (cd : Int32) (wn mn : Nat) (fk : Nat → Int32) (fa : Nat → Int64) (T : TB) (ks2 : Nat → Int32) (ct2 sm2 le2 gr2 : Nat → Int64) (hrep : repT (fun p => p) wn mn T ks2 ct2 sm2 le2 gr2) (nn : Int32) (sz : Nat)  : Met l yM_add (Cond.code yM_add bM_add 2 (some .int) :: wAll) { frames := 3, cells := 0, slots := 0, locals := 128 } (va_Pc [.ref (b 0), .int nn] (fun U => U.heap.size = sz ∧ va_P (dC, dI) classes (wM b d cd (nI wn) (nI mn) (nI T.1) ks2 ct2 sm2 le2 gr2 fk fa) U.heap ∧ va_K (dC, dI) classes (kM d) U ∧ va_D (fun _ => True) (wM b d cd (nI wn) (nI mn) (nI T.1) ks2 ct2 sm2 le2 gr2 fk fa))) (va_Qi (fun (r9 : Int32) (_ : Unit) => r9 = (if 1 ≤ nn ∧ nn ≤ 100000 then (if (takeT wn fk fa nn.toInt64 T).2 = true then nI (takeT wn fk fa nn.toInt64 T).1.1 else (-2)) else 0)) (fun (_ : Unit) (t9 : State) => ((1 ≤ nn ∧ nn ≤ 100000) → atM dC dI (va_A (wM b d cd (nI wn) (nI mn) (nI T.1) ks2 ct2 sm2 le2 gr2 fk fa) sz) b d 0 wn mn fk fa (takeT wn fk fa nn.toInt64 T).1 t9) ∧ (¬ (1 ≤ nn ∧ nn ≤ 100000) → atM dC dI (va_A (wM b d cd (nI wn) (nI mn) (nI T.1) ks2 ct2 sm2 le2 gr2 fk fa) sz) b d 1 wn mn fk fa T t9)) (va_A (wM b d cd (nI wn) (nI mn) (nI T.1) ks2 ct2 sm2 le2 gr2 fk fa) sz)) 0 0 (va_A (wM b d cd (nI wn) (nI mn) (nI T.1) ks2 ct2 sm2 le2 gr2 fk fa) sz) := by
  refine Met.ofW (cc := bM_add) (maxL := 2) (ret := (some .int)) (by decide) rfl ?_
  intro p e s m args below meth c s₁ B hml hv
  obtain ⟨rfl, hsz, hP, hK, hD0⟩ := hv
  have hx := B.exec
  have hb := B.bytes
  have hr := B.returns
  have hta : ∀ w ∈ wAll, w.before ([.ref (b 0), .int nn] : List Value).toArray s = true := fun w h => atoms_spec (ws := (Cond.code yM_add bM_add 2 (some .int) :: wAll)) B.pre w (List.mem_cons_of_mem _ h)
  have hown : s.vm.findClass "GroupRowsModel" = some m.cls := findClass_of_methodNamed B.named
  have hlocks := B.notSynchronized
  subst hsz
  have hD := hD0.self (sz := s.heap.size)
  generalize hAe : va_A (wM b d cd (nI wn) (nI mn) (nI T.1) ks2 ct2 sm2 le2 gr2 fk fa) s.heap.size = A at hD ⊢
  have hA : ∀ q : Nat, s.heap.size ≤ q → A q := fun q h => by rw [← hAe]; exact Or.inr h
  have hS : va_S A s.heap s.heap [] := va_S.rf
  have hP : va_P (dC, dI) classes (wM b d cd (nI wn) (nI mn) (nI T.1) ks2 ct2 sm2 le2 gr2 fk fa) s.heap := hP
  have hl := lv_entry ([.ref (b 0), .int nn]) (n := 2) (Nat.le_of_ble_eq_true rfl)
  rw [lg_entry_eq]
  generalize (lg_sl ([.ref (b 0), .int nn]) ++ List.replicate (2 - (lg_sl ([.ref (b 0), .int nn])).length) Slot.unset).toArray = ls at hl ⊢
  have hl : lv_has ls 2 [(0, .ref (b 0)), (1, .int nn)] := hl
  obtain ⟨⟨hwn, hmn1, hmn, hn⟩, hk9, hc9, hv9, hs9⟩ := id hrep
  refine lv_aload_n hx hb dM_add_0 rfl (lv_at hl 0 rfl) ?_
  refine lv_iload_n hx hb dM_add_1 rfl (lv_at hl 1 rfl) ?_
  refine lv_iconst (v := 1) hx hb dM_add_2 (by decide) ?_
  refine lv_icmp_lt (tgt := 12) hx hb dM_add_3 (by decide) (fun h1 => ?_) (fun h1 => ?_)
  · skip
    refine lv_iconst (v := 1) hx hb dM_add_12 (by decide) ?_
    refine lv_goto (tgt := 17) hx hb dM_add_13 (by decide) ?_
    refine va_put (D := (dC, dI)) (ci := 1) (v := .int 1) (ty := .int) (C := "GroupRowsModel") (T := FM) (N := 11) hx hb hta inM tM tMok nM hown hK hP hD hS 0 rfl rfl 0 (by decide) (hta _ w278) (fun _ h9 => h9) rfl (by decide +kernel) rfl rfl (Nat.le_of_ble_eq_true rfl) dM_add_17 (fun H locs hP hD hS => ?_)
    have hP : va_P (dC, dI) classes (wM b d 1 (nI wn) (nI mn) (nI T.1) ks2 ct2 sm2 le2 gr2 fk fa) H := hP
    have hD : va_D A (wM b d 1 (nI wn) (nI mn) (nI T.1) ks2 ct2 sm2 le2 gr2 fk fa) := hD
    refine lv_aload_n hx hb dM_add_20 rfl (lv_at hl 0 rfl) ?_
    refine va_get (D := (dC, dI)) (ci := 1) (v := .int 1) (C := "GroupRowsModel") (T := FM) (N := 11) hx hb hta inM hown hK hP 0 rfl rfl 0 (by decide) (hta _ w278) (fun _ h9 => h9) rfl dM_add_21 ?_
    refine lv_if_le (tgt := 29) hx hb dM_add_24 (by decide) (fun hz => ?_) (fun hz => ?_)
    · skip
      exact absurd hz (by decide)
    · skip
      refine lv_iconst (v := 0) hx hb dM_add_27 (by decide) ?_
      exact W.iret (v := 0) hx hb hr (fun t9 ht9 hW9 => ⟨⟨0, (), rfl, (if_neg (fun q => absurd q.1 (Int32.not_le.mpr h1))).symm, ⟨fun h9 => absurd h9 (fun q => absurd q.1 (Int32.not_le.mpr h1)), fun _ => ⟨_, _, _, _, _, hrep, by rw [ht9]; exact hP, va_K.moved hW9.alike hK, hD⟩⟩⟩, hS.F ht9⟩) hS.2.2 dM_add_28
  · skip
    refine lv_iload_n hx hb dM_add_6 rfl (lv_at hl 1 rfl) ?_
    refine lv_ldc (v := 100000) hx hb hown (hta _ w332) dM_add_7 ?_
    refine lv_icmp_le (tgt := 16) hx hb dM_add_9 (by decide) (fun h2 => ?_) (fun h2 => ?_)
    · skip
      refine lv_iconst (v := 0) hx hb dM_add_16 (by decide) ?_
      refine va_put (D := (dC, dI)) (ci := 1) (v := .int 0) (ty := .int) (C := "GroupRowsModel") (T := FM) (N := 11) hx hb hta inM tM tMok nM hown hK hP hD hS 0 rfl rfl 0 (by decide) (hta _ w278) (fun _ h9 => h9) rfl (by decide +kernel) rfl rfl (Nat.le_of_ble_eq_true rfl) dM_add_17 (fun H locs hP hD hS => ?_)
      have hP : va_P (dC, dI) classes (wM b d 0 (nI wn) (nI mn) (nI T.1) ks2 ct2 sm2 le2 gr2 fk fa) H := hP
      have hD : va_D A (wM b d 0 (nI wn) (nI mn) (nI T.1) ks2 ct2 sm2 le2 gr2 fk fa) := hD
      refine lv_aload_n hx hb dM_add_20 rfl (lv_at hl 0 rfl) ?_
      refine va_get (D := (dC, dI)) (ci := 1) (v := .int 0) (C := "GroupRowsModel") (T := FM) (N := 11) hx hb hta inM hown hK hP 0 rfl rfl 0 (by decide) (hta _ w278) (fun _ h9 => h9) rfl dM_add_21 ?_
      refine lv_if_le (tgt := 29) hx hb dM_add_24 (by decide) (fun hz => ?_) (fun hz => ?_)
      rotate_left
      · skip
        exact absurd (by decide) hz
      · skip
        have hL : 1 ≤ nn ∧ nn ≤ 100000 := ⟨Int32.not_lt.mp h1, h2⟩
        refine lv_aload_n hx hb dM_add_29 rfl (lv_at hl 0 rfl) ?_
        refine lv_iload_n hx hb dM_add_30 rfl (lv_at hl 1 rfl) ?_
        have hPc := hP
        have hDc := hD
        have hKc := hK
        have hFc := va_free (wc := (wM b d 0 (nI wn) (nI mn) (nI T.1) ks2 ct2 sm2 le2 gr2 fk fa)) hD hS hA [0, 1, 2, 3, 4, 5, 6, 7] rfl
        refine va_calli (va_runV (As := [.int nn]) (rest := []) ⟨hx, hb, hml, hown, hta⟩ (c_comes l dC dI b d 0 wn mn fk fa T ks2 ct2 sm2 le2 gr2 hrep nn H.size) (cwV 1 hta (gV w333 w335 sM_comes w2 w336) rfl rfl rfl (by decide +kernel) ⟨Nat.le_of_ble_eq_true rfl, Nat.le_of_ble_eq_true rfl⟩) ⟨gb_W, va_recv hKc hPc (ci := 1) (q0 := 0) rfl rfl, fun U hU hW => ⟨rfl, by rw [hU], by rw [hU]; exact hPc, va_K.moved hW.alike hKc, hDc.weaken (fun _ _ _ _ => trivial)⟩⟩ rfl rfl hl.1 rfl (lv_room (Nat.le_of_ble_eq_true rfl)) dM_add_31 ⟨Nat.le_of_ble_eq_true rfl, Nat.le_of_ble_eq_true rfl⟩) hS (fun q _ h => hFc q h) hFc (fun r_9 u t H1 locs ht hvm hw hB hz1 hk1 hS => ?_)
        obtain ⟨ks21, ct21, sm21, le21, gr21, hr1, hP1, hK1, hD1⟩ := hB
        rw [ht] at hP1
        obtain ⟨hP, hD⟩ := va_join (wr := []) (w1 := (wM b d 0 (nI wn) (nI mn) (nI (takeT wn fk fa nn.toInt64 T).1.1) ks21 ct21 sm21 le21 gr21 fk fa)) hP hD [0, 1, 2, 3, 4, 5, 6, 7] [] rfl rfl (by decide) (by decide) hk1 hFc hP1 hD1
        generalize H1 = H at hP hS ⊢
        have hP : va_P (dC, dI) classes (wM b d 0 (nI wn) (nI mn) (nI (takeT wn fk fa nn.toInt64 T).1.1) ks21 ct21 sm21 le21 gr21 fk fa) H := hP
        have hD : va_D A (wM b d 0 (nI wn) (nI mn) (nI (takeT wn fk fa nn.toInt64 T).1.1) ks21 ct21 sm21 le21 gr21 fk fa) := hD
        refine lv_if_eq (tgt := 44) hx hb dM_add_34 (by decide) (fun h3 => ?_) (fun h3 => ?_)
        · skip
          rw [hw] at h3
          have hb9 : ¬ (takeT wn fk fa nn.toInt64 T).2 = true := fun q => by rw [if_pos q] at h3; exact absurd h3 (by decide)
          refine lv_bipush (v := (-2)) hx hb dM_add_44 (by decide) ?_
          exact W.iret (v := (-2)) hx hb hr (fun t9 ht9 hW9 => ⟨⟨(-2), (), rfl, by rw [if_pos hL, if_neg hb9], ⟨fun _ => ⟨_, _, _, _, _, hr1, by rw [ht9]; exact hP, va_K.moved hW9.alike hK, hD⟩, fun h9 => absurd (hL) h9⟩⟩, hS.F ht9⟩) hS.2.2 dM_add_46
        · skip
          rw [hw] at h3
          have hb9 : (takeT wn fk fa nn.toInt64 T).2 = true := by
            by_cases q : (takeT wn fk fa nn.toInt64 T).2 = true
            · exact q
            · rw [if_neg q] at h3; exact absurd rfl h3
          refine lv_aload_n hx hb dM_add_37 rfl (lv_at hl 0 rfl) ?_
          refine va_get (D := (dC, dI)) (ci := 1) (v := .int (nI (takeT wn fk fa nn.toInt64 T).1.1)) (C := "GroupRowsModel") (T := FM) (N := 11) hx hb hta inM hown hK hP 0 rfl rfl 3 (by decide) (hta _ w281) (fun _ h9 => h9) rfl dM_add_38 ?_
          refine lv_goto (tgt := 46) hx hb dM_add_41 (by decide) ?_
          exact W.iret (v := (nI (takeT wn fk fa nn.toInt64 T).1.1)) hx hb hr (fun t9 ht9 hW9 => ⟨⟨(nI (takeT wn fk fa nn.toInt64 T).1.1), (), rfl, by rw [if_pos hL, if_pos hb9], ⟨fun _ => ⟨_, _, _, _, _, hr1, by rw [ht9]; exact hP, va_K.moved hW9.alike hK, hD⟩, fun h9 => absurd (hL) h9⟩⟩, hS.F ht9⟩) hS.2.2 dM_add_46
    · skip
      refine lv_iconst (v := 1) hx hb dM_add_12 (by decide) ?_
      refine lv_goto (tgt := 17) hx hb dM_add_13 (by decide) ?_
      refine va_put (D := (dC, dI)) (ci := 1) (v := .int 1) (ty := .int) (C := "GroupRowsModel") (T := FM) (N := 11) hx hb hta inM tM tMok nM hown hK hP hD hS 0 rfl rfl 0 (by decide) (hta _ w278) (fun _ h9 => h9) rfl (by decide +kernel) rfl rfl (Nat.le_of_ble_eq_true rfl) dM_add_17 (fun H locs hP hD hS => ?_)
      have hP : va_P (dC, dI) classes (wM b d 1 (nI wn) (nI mn) (nI T.1) ks2 ct2 sm2 le2 gr2 fk fa) H := hP
      have hD : va_D A (wM b d 1 (nI wn) (nI mn) (nI T.1) ks2 ct2 sm2 le2 gr2 fk fa) := hD
      refine lv_aload_n hx hb dM_add_20 rfl (lv_at hl 0 rfl) ?_
      refine va_get (D := (dC, dI)) (ci := 1) (v := .int 1) (C := "GroupRowsModel") (T := FM) (N := 11) hx hb hta inM hown hK hP 0 rfl rfl 0 (by decide) (hta _ w278) (fun _ h9 => h9) rfl dM_add_21 ?_
      refine lv_if_le (tgt := 29) hx hb dM_add_24 (by decide) (fun hz => ?_) (fun hz => ?_)
      · skip
        exact absurd hz (by decide)
      · skip
        refine lv_iconst (v := 0) hx hb dM_add_27 (by decide) ?_
        exact W.iret (v := 0) hx hb hr (fun t9 ht9 hW9 => ⟨⟨0, (), rfl, (if_neg (fun q => h2 q.2)).symm, ⟨fun h9 => absurd h9 (fun q => h2 q.2), fun _ => ⟨_, _, _, _, _, hrep, by rw [ht9]; exact hP, va_K.moved hW9.alike hK, hD⟩⟩⟩, hS.F ht9⟩) hS.2.2 dM_add_28
set_option maxHeartbeats 4000000 in
set_option maxRecDepth 100000 in
theorem c_Mrows (l : Launch) (dC : Nat → ClassId) (dI : Nat → Nat → Nat) (b : Nat → Nat) (d : Nat → ClassId) (cd : Int32) (wn mn : Nat) (fk : Nat → Int32) (fa : Nat → Int64) (T : TB) (ks2 : Nat → Int32) (ct2 sm2 le2 gr2 : Nat → Int64) (hrep : repT (fun p => p) wn mn T ks2 ct2 sm2 le2 gr2) (sz : Nat)  : Met l yM_rows (Cond.code yM_rows bM_rows 1 (some .int) :: wAll) { frames := 3, cells := 0, slots := 0, locals := 128 } (va_Pc [.ref (b 0)] (fun U => U.heap.size = sz ∧ va_P (dC, dI) classes (wM b d cd (nI wn) (nI mn) (nI T.1) ks2 ct2 sm2 le2 gr2 fk fa) U.heap ∧ va_K (dC, dI) classes (kM d) U ∧ va_D (fun _ => True) (wM b d cd (nI wn) (nI mn) (nI T.1) ks2 ct2 sm2 le2 gr2 fk fa))) (va_Qi (fun (r9 : Int32) (_ : Unit) => r9 = (nI T.1)) (fun (_ : Unit) (t9 : State) => atM dC dI (va_A (wM b d cd (nI wn) (nI mn) (nI T.1) ks2 ct2 sm2 le2 gr2 fk fa) sz) b d 0 wn mn fk fa T t9) (va_A (wM b d cd (nI wn) (nI mn) (nI T.1) ks2 ct2 sm2 le2 gr2 fk fa) sz)) 0 0 (va_A (wM b d cd (nI wn) (nI mn) (nI T.1) ks2 ct2 sm2 le2 gr2 fk fa) sz) := by
  refine Met.ofW (cc := bM_rows) (maxL := 1) (ret := (some .int)) (by decide) rfl ?_
  intro p e s m args below meth c s₁ B hml hv
  obtain ⟨rfl, hsz, hP, hK, hD0⟩ := hv
  have hx := B.exec
  have hb := B.bytes
  have hr := B.returns
  have hta : ∀ w ∈ wAll, w.before ([.ref (b 0)] : List Value).toArray s = true := fun w h => atoms_spec (ws := (Cond.code yM_rows bM_rows 1 (some .int) :: wAll)) B.pre w (List.mem_cons_of_mem _ h)
  have hown : s.vm.findClass "GroupRowsModel" = some m.cls := findClass_of_methodNamed B.named
  have hlocks := B.notSynchronized
  subst hsz
  have hD := hD0.self (sz := s.heap.size)
  generalize hAe : va_A (wM b d cd (nI wn) (nI mn) (nI T.1) ks2 ct2 sm2 le2 gr2 fk fa) s.heap.size = A at hD ⊢
  have hA : ∀ q : Nat, s.heap.size ≤ q → A q := fun q h => by rw [← hAe]; exact Or.inr h
  have hS : va_S A s.heap s.heap [] := va_S.rf
  have hP : va_P (dC, dI) classes (wM b d cd (nI wn) (nI mn) (nI T.1) ks2 ct2 sm2 le2 gr2 fk fa) s.heap := hP
  have hl := lv_entry ([.ref (b 0)]) (n := 1) (Nat.le_of_ble_eq_true rfl)
  rw [lg_entry_eq]
  generalize (lg_sl ([.ref (b 0)]) ++ List.replicate (1 - (lg_sl ([.ref (b 0)])).length) Slot.unset).toArray = ls at hl ⊢
  have hl : lv_has ls 1 [(0, .ref (b 0))] := hl
  refine lv_aload_n hx hb dM_rows_0 rfl (lv_at hl 0 rfl) ?_
  refine lv_iconst (v := 0) hx hb dM_rows_1 (by decide) ?_
  refine va_put (D := (dC, dI)) (ci := 1) (v := .int 0) (ty := .int) (C := "GroupRowsModel") (T := FM) (N := 11) hx hb hta inM tM tMok nM hown hK hP hD hS 0 rfl rfl 0 (by decide) (hta _ w278) (fun _ h9 => h9) rfl (by decide +kernel) rfl rfl (Nat.le_of_ble_eq_true rfl) dM_rows_2 (fun H locs hP hD hS => ?_)
  have hP : va_P (dC, dI) classes (wM b d 0 (nI wn) (nI mn) (nI T.1) ks2 ct2 sm2 le2 gr2 fk fa) H := hP
  have hD : va_D A (wM b d 0 (nI wn) (nI mn) (nI T.1) ks2 ct2 sm2 le2 gr2 fk fa) := hD
  refine lv_aload_n hx hb dM_rows_5 rfl (lv_at hl 0 rfl) ?_
  refine va_get (D := (dC, dI)) (ci := 1) (v := .int (nI T.1)) (C := "GroupRowsModel") (T := FM) (N := 11) hx hb hta inM hown hK hP 0 rfl rfl 3 (by decide) (hta _ w281) (fun _ h9 => h9) rfl dM_rows_6 ?_
  exact W.iret (v := (nI T.1)) hx hb hr (fun t9 ht9 hW9 => ⟨⟨(nI T.1), (), rfl, rfl, ⟨_, _, _, _, _, hrep, by rw [ht9]; exact hP, va_K.moved hW9.alike hK, hD⟩⟩, hS.F ht9⟩) hS.2.2 dM_rows_9
set_option maxHeartbeats 4000000 in
set_option maxRecDepth 100000 in
theorem c_Mfind (l : Launch) (dC : Nat → ClassId) (dI : Nat → Nat → Nat) (b : Nat → Nat) (d : Nat → ClassId) (cd : Int32) (wn mn : Nat) (fk : Nat → Int32) (fa : Nat → Int64) (T : TB) (ks2 : Nat → Int32) (ct2 sm2 le2 gr2 : Nat → Int64) (hrep : repT (fun p => p) wn mn T ks2 ct2 sm2 le2 gr2) (sz : Nat)  : Met l yM_find (Cond.code yM_find bM_find 2 (some .int) :: wAll) { frames := 3, cells := 0, slots := 0, locals := 128 } (va_Pc [.ref (b 0)] (fun U => U.heap.size = sz ∧ va_P (dC, dI) classes (wM b d cd (nI wn) (nI mn) (nI T.1) ks2 ct2 sm2 le2 gr2 fk fa) U.heap ∧ va_K (dC, dI) classes (kM d) U ∧ va_D (fun _ => True) (wM b d cd (nI wn) (nI mn) (nI T.1) ks2 ct2 sm2 le2 gr2 fk fa))) (va_Qi (fun (r9 : Int32) (_ : Unit) => r9 = (if lowP wn T.1 T.2.1 fk < T.1 ∧ lx (T.2.1 (lowP wn T.1 T.2.1 fk)) fk wn 0 = 0 then nI (lowP wn T.1 T.2.1 fk) else (-1))) (fun (_ : Unit) (t9 : State) => atM dC dI (va_A (wM b d cd (nI wn) (nI mn) (nI T.1) ks2 ct2 sm2 le2 gr2 fk fa) sz) b d 0 wn mn fk fa T t9) (va_A (wM b d cd (nI wn) (nI mn) (nI T.1) ks2 ct2 sm2 le2 gr2 fk fa) sz)) 0 0 (va_A (wM b d cd (nI wn) (nI mn) (nI T.1) ks2 ct2 sm2 le2 gr2 fk fa) sz) := by
  refine Met.ofW (cc := bM_find) (maxL := 2) (ret := (some .int)) (by decide) rfl ?_
  intro p e s m args below meth c s₁ B hml hv
  obtain ⟨rfl, hsz, hP, hK, hD0⟩ := hv
  have hx := B.exec
  have hb := B.bytes
  have hr := B.returns
  have hta : ∀ w ∈ wAll, w.before ([.ref (b 0)] : List Value).toArray s = true := fun w h => atoms_spec (ws := (Cond.code yM_find bM_find 2 (some .int) :: wAll)) B.pre w (List.mem_cons_of_mem _ h)
  have hown : s.vm.findClass "GroupRowsModel" = some m.cls := findClass_of_methodNamed B.named
  have hlocks := B.notSynchronized
  subst hsz
  have hD := hD0.self (sz := s.heap.size)
  generalize hAe : va_A (wM b d cd (nI wn) (nI mn) (nI T.1) ks2 ct2 sm2 le2 gr2 fk fa) s.heap.size = A at hD ⊢
  have hA : ∀ q : Nat, s.heap.size ≤ q → A q := fun q h => by rw [← hAe]; exact Or.inr h
  have hS : va_S A s.heap s.heap [] := va_S.rf
  have hP : va_P (dC, dI) classes (wM b d cd (nI wn) (nI mn) (nI T.1) ks2 ct2 sm2 le2 gr2 fk fa) s.heap := hP
  have hl := lv_entry ([.ref (b 0)]) (n := 2) (Nat.le_of_ble_eq_true rfl)
  rw [lg_entry_eq]
  generalize (lg_sl ([.ref (b 0)]) ++ List.replicate (2 - (lg_sl ([.ref (b 0)])).length) Slot.unset).toArray = ls at hl ⊢
  have hl : lv_has ls 2 [(0, .ref (b 0))] := hl
  obtain ⟨⟨hwn, hmn1, hmn, hn⟩, hk9, hc9, hv9, hs9⟩ := id hrep
  have hlow := repM_low (fk := fk) hrep
  obtain ⟨ps, eps⟩ : ∃ ps, ps = lowP wn T.1 T.2.1 fk := ⟨_, rfl⟩
  rw [← eps] at hlow
  have hps := hlow.1
  refine lv_aload_n hx hb dM_find_0 rfl (lv_at hl 0 rfl) ?_
  refine lv_iconst (v := 0) hx hb dM_find_1 (by decide) ?_
  refine va_put (D := (dC, dI)) (ci := 1) (v := .int 0) (ty := .int) (C := "GroupRowsModel") (T := FM) (N := 11) hx hb hta inM tM tMok nM hown hK hP hD hS 0 rfl rfl 0 (by decide) (hta _ w278) (fun _ h9 => h9) rfl (by decide +kernel) rfl rfl (Nat.le_of_ble_eq_true rfl) dM_find_2 (fun H locs hP hD hS => ?_)
  have hP : va_P (dC, dI) classes (wM b d 0 (nI wn) (nI mn) (nI T.1) ks2 ct2 sm2 le2 gr2 fk fa) H := hP
  have hD : va_D A (wM b d 0 (nI wn) (nI mn) (nI T.1) ks2 ct2 sm2 le2 gr2 fk fa) := hD
  refine lv_aload_n hx hb dM_find_5 rfl (lv_at hl 0 rfl) ?_
  refine gi_callR (v := .int (nI ps)) (W.runV (As := []) (rest := []) ⟨hx, hb, hml, hown, hta⟩ (c_before l dC dI b d wn T.1 0 (nI mn) ks2 ct2 sm2 le2 gr2 fk fa ps hwn hn hlow) (cwV 0 hta (gV w337 w339 sM_before w2 w340) rfl rfl rfl (by decide +kernel) ⟨Nat.le_of_ble_eq_true rfl, Nat.le_of_ble_eq_true rfl⟩) ⟨gb_R, va_recv hK hP (ci := 1) (q0 := 0) rfl rfl, fun U hU hW => ⟨rfl, by rw [hU]; exact hP, va_K.moved hW.alike hK⟩⟩ rfl rfl hl.1 rfl (lv_room (Nat.le_of_ble_eq_true rfl)) dM_find_6 ⟨Nat.le_of_ble_eq_true rfl, Nat.le_of_ble_eq_true rfl⟩) ?_
  refine lv_istore_n (lv' := [(1, .int (nI ps)), (0, .ref (b 0))]) hx hb dM_find_9 rfl hl (by decide) rfl (fun ls hl => ?_)
  refine lv_iload_n hx hb dM_find_10 rfl (lv_at hl 0 rfl) ?_
  refine lv_aload_n hx hb dM_find_11 rfl (lv_at hl 1 rfl) ?_
  refine va_get (D := (dC, dI)) (ci := 1) (v := .int (nI T.1)) (C := "GroupRowsModel") (T := FM) (N := 11) hx hb hta inM hown hK hP 0 rfl rfl 3 (by decide) (hta _ w281) (fun _ h9 => h9) rfl dM_find_12 ?_
  refine lv_icmp_ge (tgt := 30) hx hb dM_find_15 (by decide) (fun h1 => ?_) (fun h1 => ?_)
  · skip
    have h1 : T.1 ≤ ps := (nI_leI (by omega) (by omega)).mp h1
    refine lv_iconst (v := (-1)) hx hb dM_find_30 (by decide) ?_
    exact W.iret (v := (-1)) hx hb hr (fun t9 ht9 hW9 => ⟨⟨(-1), (), rfl, (if_neg (by rw [← eps]; exact fun q => absurd q.1 (by omega))).symm, ⟨_, _, _, _, _, hrep, by rw [ht9]; exact hP, va_K.moved hW9.alike hK, hD⟩⟩, hS.F ht9⟩) hS.2.2 dM_find_31
  · skip
    have h1 : ps < T.1 := by
      rcases Nat.lt_or_ge ps T.1 with z | z
      · exact z
      · exact absurd (nI_le z (by omega)) h1
    refine lv_aload_n hx hb dM_find_18 rfl (lv_at hl 1 rfl) ?_
    refine lv_iload_n hx hb dM_find_19 rfl (lv_at hl 0 rfl) ?_
    refine gi_callR (v := .int (lx fk (fun i => ks2 (8 * ps + i)) wn 0)) (W.runV (As := [.int (nI ps)]) (rest := []) ⟨hx, hb, hml, hown, hta⟩ (c_against l dC dI b d wn 0 (nI mn) (nI T.1) ks2 ct2 sm2 le2 gr2 fk fa ps hwn (by omega)) (cwV 1 hta (gV w341 w343 sM_against w2 w344) rfl rfl rfl (by decide +kernel) ⟨Nat.le_of_ble_eq_true rfl, Nat.le_of_ble_eq_true rfl⟩) ⟨gb_R, va_recv hK hP (ci := 1) (q0 := 0) rfl rfl, fun U hU hW => ⟨rfl, by rw [hU]; exact hP, va_K.moved hW.alike hK⟩⟩ rfl rfl hl.1 rfl (lv_room (Nat.le_of_ble_eq_true rfl)) dM_find_20 ⟨Nat.le_of_ble_eq_true rfl, Nat.le_of_ble_eq_true rfl⟩) ?_
    refine lv_if_ne (tgt := 30) hx hb dM_find_23 (by decide) (fun h2 => ?_) (fun h2 => ?_)
    · skip
      refine lv_iconst (v := (-1)) hx hb dM_find_30 (by decide) ?_
      exact W.iret (v := (-1)) hx hb hr (fun t9 ht9 hW9 => ⟨⟨(-1), (), rfl, (if_neg (by rw [← eps]; exact fun q => h2 ((repM_has hrep h1).mpr q.2))).symm, ⟨_, _, _, _, _, hrep, by rw [ht9]; exact hP, va_K.moved hW9.alike hK, hD⟩⟩, hS.F ht9⟩) hS.2.2 dM_find_31
    · skip
      refine lv_iload_n hx hb dM_find_26 rfl (lv_at hl 0 rfl) ?_
      refine lv_goto (tgt := 31) hx hb dM_find_27 (by decide) ?_
      exact W.iret (v := (nI ps)) hx hb hr (fun t9 ht9 hW9 => ⟨⟨(nI ps), (), rfl, by rw [if_pos (by rw [← eps]; exact ⟨h1, (repM_has hrep h1).mp h2⟩), eps], ⟨_, _, _, _, _, hrep, by rw [ht9]; exact hP, va_K.moved hW9.alike hK, hD⟩⟩, hS.F ht9⟩) hS.2.2 dM_find_31
set_option maxHeartbeats 4000000 in
set_option maxRecDepth 100000 in
theorem c_MkeyAt (l : Launch) (dC : Nat → ClassId) (dI : Nat → Nat → Nat) (b : Nat → Nat) (d : Nat → ClassId) (cd : Int32) (wn mn : Nat) (fk : Nat → Int32) (fa : Nat → Int64) (T : TB) (ks2 : Nat → Int32) (ct2 sm2 le2 gr2 : Nat → Int64) (hrep : repT (fun p => p) wn mn T ks2 ct2 sm2 le2 gr2) (pl i : Int32) (sz : Nat)  : Met l yM_keyAt (Cond.code yM_keyAt bM_keyAt 3 (some .int) :: wAll) { frames := 3, cells := 0, slots := 0, locals := 128 } (va_Pc [.ref (b 0), .int pl, .int i] (fun U => U.heap.size = sz ∧ va_P (dC, dI) classes (wM b d cd (nI wn) (nI mn) (nI T.1) ks2 ct2 sm2 le2 gr2 fk fa) U.heap ∧ va_K (dC, dI) classes (kM d) U ∧ va_D (fun _ => True) (wM b d cd (nI wn) (nI mn) (nI T.1) ks2 ct2 sm2 le2 gr2 fk fa))) (va_Qi (fun (r9 : Int32) (_ : Unit) => r9 = (if (0 ≤ pl ∧ pl < nI T.1) ∧ 0 ≤ i ∧ i < nI wn then T.2.1 pl.toNatClampNeg i.toNatClampNeg else 0)) (fun (_ : Unit) (t9 : State) => (((0 ≤ pl ∧ pl < nI T.1) ∧ 0 ≤ i ∧ i < nI wn) → atM dC dI (va_A (wM b d cd (nI wn) (nI mn) (nI T.1) ks2 ct2 sm2 le2 gr2 fk fa) sz) b d 0 wn mn fk fa T t9) ∧ (¬ ((0 ≤ pl ∧ pl < nI T.1) ∧ 0 ≤ i ∧ i < nI wn) → atM dC dI (va_A (wM b d cd (nI wn) (nI mn) (nI T.1) ks2 ct2 sm2 le2 gr2 fk fa) sz) b d 1 wn mn fk fa T t9)) (va_A (wM b d cd (nI wn) (nI mn) (nI T.1) ks2 ct2 sm2 le2 gr2 fk fa) sz)) 0 0 (va_A (wM b d cd (nI wn) (nI mn) (nI T.1) ks2 ct2 sm2 le2 gr2 fk fa) sz) := by
  refine Met.ofW (cc := bM_keyAt) (maxL := 3) (ret := (some .int)) (by decide) rfl ?_
  intro p e s m args below meth c s₁ B hml hv
  obtain ⟨rfl, hsz, hP, hK, hD0⟩ := hv
  have hx := B.exec
  have hb := B.bytes
  have hr := B.returns
  have hta : ∀ w ∈ wAll, w.before ([.ref (b 0), .int pl, .int i] : List Value).toArray s = true := fun w h => atoms_spec (ws := (Cond.code yM_keyAt bM_keyAt 3 (some .int) :: wAll)) B.pre w (List.mem_cons_of_mem _ h)
  have hown : s.vm.findClass "GroupRowsModel" = some m.cls := findClass_of_methodNamed B.named
  have hlocks := B.notSynchronized
  subst hsz
  have hD := hD0.self (sz := s.heap.size)
  generalize hAe : va_A (wM b d cd (nI wn) (nI mn) (nI T.1) ks2 ct2 sm2 le2 gr2 fk fa) s.heap.size = A at hD ⊢
  have hA : ∀ q : Nat, s.heap.size ≤ q → A q := fun q h => by rw [← hAe]; exact Or.inr h
  have hS : va_S A s.heap s.heap [] := va_S.rf
  have hP : va_P (dC, dI) classes (wM b d cd (nI wn) (nI mn) (nI T.1) ks2 ct2 sm2 le2 gr2 fk fa) s.heap := hP
  have hl := lv_entry ([.ref (b 0), .int pl, .int i]) (n := 3) (Nat.le_of_ble_eq_true rfl)
  rw [lg_entry_eq]
  generalize (lg_sl ([.ref (b 0), .int pl, .int i]) ++ List.replicate (3 - (lg_sl ([.ref (b 0), .int pl, .int i])).length) Slot.unset).toArray = ls at hl ⊢
  have hl : lv_has ls 3 [(0, .ref (b 0)), (1, .int pl), (2, .int i)] := hl
  obtain ⟨⟨hwn, hmn1, hmn, hn⟩, hk9, hc9, hv9, hs9⟩ := id hrep
  refine lv_aload_n hx hb dM_keyAt_0 rfl (lv_at hl 0 rfl) ?_
  refine lv_aload_n hx hb dM_keyAt_1 rfl (lv_at hl 0 rfl) ?_
  refine lv_iload_n hx hb dM_keyAt_2 rfl (lv_at hl 1 rfl) ?_
  refine gi_callR (v := .int (if 0 ≤ pl ∧ pl < nI T.1 then 1 else 0)) (W.runV (As := [.int pl]) (rest := [.ref (b 0)]) ⟨hx, hb, hml, hown, hta⟩ (c_isRow l dC dI b d cd (nI wn) (nI mn) (nI T.1) ks2 ct2 sm2 le2 gr2 fk fa pl) (cwV 1 hta (gV w386 w388 sM_isRow w2 w389) rfl rfl rfl (by decide +kernel) ⟨Nat.le_of_ble_eq_true rfl, Nat.le_of_ble_eq_true rfl⟩) ⟨gb_R, va_recv hK hP (ci := 1) (q0 := 0) rfl rfl, fun U hU hW => ⟨rfl, by rw [hU]; exact hP, va_K.moved hW.alike hK⟩⟩ rfl rfl hl.1 rfl (lv_room (Nat.le_of_ble_eq_true rfl)) dM_keyAt_3 ⟨Nat.le_of_ble_eq_true rfl, Nat.le_of_ble_eq_true rfl⟩) ?_
  refine lv_if_eq (tgt := 25) hx hb dM_keyAt_6 (by decide) (fun h1 => ?_) (fun h1 => ?_)
  · skip
    have hN : ¬ (0 ≤ pl ∧ pl < nI T.1) := fun q => by rw [if_pos q] at h1; exact absurd h1 (by decide)
    refine lv_iconst (v := 1) hx hb dM_keyAt_25 (by decide) ?_
    refine va_put (D := (dC, dI)) (ci := 1) (v := .int 1) (ty := .int) (C := "GroupRowsModel") (T := FM) (N := 11) hx hb hta inM tM tMok nM hown hK hP hD hS 0 rfl rfl 0 (by decide) (hta _ w278) (fun _ h9 => h9) rfl (by decide +kernel) rfl rfl (Nat.le_of_ble_eq_true rfl) dM_keyAt_26 (fun H locs hP hD hS => ?_)
    have hP : va_P (dC, dI) classes (wM b d 1 (nI wn) (nI mn) (nI T.1) ks2 ct2 sm2 le2 gr2 fk fa) H := hP
    have hD : va_D A (wM b d 1 (nI wn) (nI mn) (nI T.1) ks2 ct2 sm2 le2 gr2 fk fa) := hD
    refine lv_aload_n hx hb dM_keyAt_29 rfl (lv_at hl 0 rfl) ?_
    refine va_get (D := (dC, dI)) (ci := 1) (v := .int 1) (C := "GroupRowsModel") (T := FM) (N := 11) hx hb hta inM hown hK hP 0 rfl rfl 0 (by decide) (hta _ w278) (fun _ h9 => h9) rfl dM_keyAt_30 ?_
    refine lv_if_le (tgt := 40) hx hb dM_keyAt_33 (by decide) (fun hz => ?_) (fun hz => ?_)
    · skip
      exact absurd hz (by decide)
    · skip
      refine lv_iconst (v := 0) hx hb dM_keyAt_36 (by decide) ?_
      refine lv_goto (tgt := 51) hx hb dM_keyAt_37 (by decide) ?_
      exact W.iret (v := 0) hx hb hr (fun t9 ht9 hW9 => ⟨⟨0, (), rfl, (if_neg (fun q => hN q.1)).symm, ⟨fun h9 => absurd h9 (fun q => hN q.1), fun _ => ⟨_, _, _, _, _, hrep, by rw [ht9]; exact hP, va_K.moved hW9.alike hK, hD⟩⟩⟩, hS.F ht9⟩) hS.2.2 dM_keyAt_51
  · skip
    have hL1 : 0 ≤ pl ∧ pl < nI T.1 := by
      by_cases q : 0 ≤ pl ∧ pl < nI T.1
      · exact q
      · rw [if_neg q] at h1; exact absurd rfl h1
    refine lv_iload_n hx hb dM_keyAt_9 rfl (lv_at hl 2 rfl) ?_
    refine lv_if_lt (tgt := 25) hx hb dM_keyAt_10 (by decide) (fun h2 => ?_) (fun h2 => ?_)
    · skip
      refine lv_iconst (v := 1) hx hb dM_keyAt_25 (by decide) ?_
      refine va_put (D := (dC, dI)) (ci := 1) (v := .int 1) (ty := .int) (C := "GroupRowsModel") (T := FM) (N := 11) hx hb hta inM tM tMok nM hown hK hP hD hS 0 rfl rfl 0 (by decide) (hta _ w278) (fun _ h9 => h9) rfl (by decide +kernel) rfl rfl (Nat.le_of_ble_eq_true rfl) dM_keyAt_26 (fun H locs hP hD hS => ?_)
      have hP : va_P (dC, dI) classes (wM b d 1 (nI wn) (nI mn) (nI T.1) ks2 ct2 sm2 le2 gr2 fk fa) H := hP
      have hD : va_D A (wM b d 1 (nI wn) (nI mn) (nI T.1) ks2 ct2 sm2 le2 gr2 fk fa) := hD
      refine lv_aload_n hx hb dM_keyAt_29 rfl (lv_at hl 0 rfl) ?_
      refine va_get (D := (dC, dI)) (ci := 1) (v := .int 1) (C := "GroupRowsModel") (T := FM) (N := 11) hx hb hta inM hown hK hP 0 rfl rfl 0 (by decide) (hta _ w278) (fun _ h9 => h9) rfl dM_keyAt_30 ?_
      refine lv_if_le (tgt := 40) hx hb dM_keyAt_33 (by decide) (fun hz => ?_) (fun hz => ?_)
      · skip
        exact absurd hz (by decide)
      · skip
        refine lv_iconst (v := 0) hx hb dM_keyAt_36 (by decide) ?_
        refine lv_goto (tgt := 51) hx hb dM_keyAt_37 (by decide) ?_
        exact W.iret (v := 0) hx hb hr (fun t9 ht9 hW9 => ⟨⟨0, (), rfl, (if_neg (fun q => absurd q.2.1 (Int32.not_le.mpr h2))).symm, ⟨fun h9 => absurd h9 (fun q => absurd q.2.1 (Int32.not_le.mpr h2)), fun _ => ⟨_, _, _, _, _, hrep, by rw [ht9]; exact hP, va_K.moved hW9.alike hK, hD⟩⟩⟩, hS.F ht9⟩) hS.2.2 dM_keyAt_51
    · skip
      refine lv_iload_n hx hb dM_keyAt_13 rfl (lv_at hl 2 rfl) ?_
      refine lv_aload_n hx hb dM_keyAt_14 rfl (lv_at hl 0 rfl) ?_
      refine va_get (D := (dC, dI)) (ci := 1) (v := .int (nI wn)) (C := "GroupRowsModel") (T := FM) (N := 11) hx hb hta inM hown hK hP 0 rfl rfl 1 (by decide) (hta _ w279) (fun _ h9 => h9) rfl dM_keyAt_15 ?_
      refine lv_icmp_ge (tgt := 25) hx hb dM_keyAt_18 (by decide) (fun h3 => ?_) (fun h3 => ?_)
      · skip
        refine lv_iconst (v := 1) hx hb dM_keyAt_25 (by decide) ?_
        refine va_put (D := (dC, dI)) (ci := 1) (v := .int 1) (ty := .int) (C := "GroupRowsModel") (T := FM) (N := 11) hx hb hta inM tM tMok nM hown hK hP hD hS 0 rfl rfl 0 (by decide) (hta _ w278) (fun _ h9 => h9) rfl (by decide +kernel) rfl rfl (Nat.le_of_ble_eq_true rfl) dM_keyAt_26 (fun H locs hP hD hS => ?_)
        have hP : va_P (dC, dI) classes (wM b d 1 (nI wn) (nI mn) (nI T.1) ks2 ct2 sm2 le2 gr2 fk fa) H := hP
        have hD : va_D A (wM b d 1 (nI wn) (nI mn) (nI T.1) ks2 ct2 sm2 le2 gr2 fk fa) := hD
        refine lv_aload_n hx hb dM_keyAt_29 rfl (lv_at hl 0 rfl) ?_
        refine va_get (D := (dC, dI)) (ci := 1) (v := .int 1) (C := "GroupRowsModel") (T := FM) (N := 11) hx hb hta inM hown hK hP 0 rfl rfl 0 (by decide) (hta _ w278) (fun _ h9 => h9) rfl dM_keyAt_30 ?_
        refine lv_if_le (tgt := 40) hx hb dM_keyAt_33 (by decide) (fun hz => ?_) (fun hz => ?_)
        · skip
          exact absurd hz (by decide)
        · skip
          refine lv_iconst (v := 0) hx hb dM_keyAt_36 (by decide) ?_
          refine lv_goto (tgt := 51) hx hb dM_keyAt_37 (by decide) ?_
          exact W.iret (v := 0) hx hb hr (fun t9 ht9 hW9 => ⟨⟨0, (), rfl, (if_neg (fun q => absurd q.2.2 (Int32.not_lt.mpr h3))).symm, ⟨fun h9 => absurd h9 (fun q => absurd q.2.2 (Int32.not_lt.mpr h3)), fun _ => ⟨_, _, _, _, _, hrep, by rw [ht9]; exact hP, va_K.moved hW9.alike hK, hD⟩⟩⟩, hS.F ht9⟩) hS.2.2 dM_keyAt_51
      · skip
        refine lv_iconst (v := 0) hx hb dM_keyAt_21 (by decide) ?_
        refine lv_goto (tgt := 26) hx hb dM_keyAt_22 (by decide) ?_
        refine va_put (D := (dC, dI)) (ci := 1) (v := .int 0) (ty := .int) (C := "GroupRowsModel") (T := FM) (N := 11) hx hb hta inM tM tMok nM hown hK hP hD hS 0 rfl rfl 0 (by decide) (hta _ w278) (fun _ h9 => h9) rfl (by decide +kernel) rfl rfl (Nat.le_of_ble_eq_true rfl) dM_keyAt_26 (fun H locs hP hD hS => ?_)
        have hP : va_P (dC, dI) classes (wM b d 0 (nI wn) (nI mn) (nI T.1) ks2 ct2 sm2 le2 gr2 fk fa) H := hP
        have hD : va_D A (wM b d 0 (nI wn) (nI mn) (nI T.1) ks2 ct2 sm2 le2 gr2 fk fa) := hD
        refine lv_aload_n hx hb dM_keyAt_29 rfl (lv_at hl 0 rfl) ?_
        refine va_get (D := (dC, dI)) (ci := 1) (v := .int 0) (C := "GroupRowsModel") (T := FM) (N := 11) hx hb hta inM hown hK hP 0 rfl rfl 0 (by decide) (hta _ w278) (fun _ h9 => h9) rfl dM_keyAt_30 ?_
        refine lv_if_le (tgt := 40) hx hb dM_keyAt_33 (by decide) (fun hz => ?_) (fun hz => ?_)
        rotate_left
        · skip
          exact absurd (by decide) hz
        · skip
          have hL : (0 ≤ pl ∧ pl < nI T.1) ∧ 0 ≤ i ∧ i < nI wn := ⟨hL1, Int32.not_lt.mp h2, Int32.not_le.mp h3⟩
          obtain ⟨p0, hp0, ep, cp⟩ := in_nI (by omega) hL.1
          obtain ⟨j, hj, ej, cj⟩ := in_nI (by omega) hL.2
          subst ep
          subst ej
          refine lv_aload_n hx hb dM_keyAt_40 rfl (lv_at hl 0 rfl) ?_
          refine va_get (D := (dC, dI)) (ci := 1) (v := .ref (b 1)) (C := "GroupRowsModel") (T := FM) (N := 11) hx hb hta inM hown hK hP 0 rfl rfl 4 (by decide) (hta _ w282) (fun _ h9 => h9) rfl dM_keyAt_41 ?_
          refine lv_bipush (v := 8) hx hb dM_keyAt_44 (by decide) ?_
          refine lv_iload_n hx hb dM_keyAt_46 rfl (lv_at hl 1 rfl) ?_
          refine lv_imul hx hb dM_keyAt_47 ?_
          refine gi_as (y := nI (8 * p0)) (gi_8mul _) ?_
          refine lv_iload_n hx hb dM_keyAt_48 rfl (lv_at hl 2 rfl) ?_
          refine lv_iadd hx hb dM_keyAt_49 ?_
          refine gi_as (y := nI ((8 * p0) + j)) (nI_add _ _) ?_
          refine gi_iald hx hb hK hP 1 0 rfl rfl (k := ((8 * p0) + j)) (by omega) (by decide) dM_keyAt_50 ?_
          refine gi_as (y := T.2.1 p0 j) (hk9 p0 hp0 j hj) ?_
          exact W.iret (v := (T.2.1 p0 j)) hx hb hr (fun t9 ht9 hW9 => ⟨⟨(T.2.1 p0 j), (), rfl, by rw [if_pos hL, cp, cj], ⟨fun _ => ⟨_, _, _, _, _, hrep, by rw [ht9]; exact hP, va_K.moved hW9.alike hK, hD⟩, fun h9 => absurd (hL) h9⟩⟩, hS.F ht9⟩) hS.2.2 dM_keyAt_51
set_option maxHeartbeats 4000000 in
set_option maxRecDepth 100000 in
theorem c_Mcount (l : Launch) (dC : Nat → ClassId) (dI : Nat → Nat → Nat) (b : Nat → Nat) (d : Nat → ClassId) (cd : Int32) (wn mn : Nat) (fk : Nat → Int32) (fa : Nat → Int64) (T : TB) (ks2 : Nat → Int32) (ct2 sm2 le2 gr2 : Nat → Int64) (hrep : repT (fun p => p) wn mn T ks2 ct2 sm2 le2 gr2) (pl : Int32) (sz : Nat)  : Met l yM_count (Cond.code yM_count bM_count 2 (some .long) :: wAll) { frames := 3, cells := 0, slots := 0, locals := 128 } (va_Pc [.ref (b 0), .int pl] (fun U => U.heap.size = sz ∧ va_P (dC, dI) classes (wM b d cd (nI wn) (nI mn) (nI T.1) ks2 ct2 sm2 le2 gr2 fk fa) U.heap ∧ va_K (dC, dI) classes (kM d) U ∧ va_D (fun _ => True) (wM b d cd (nI wn) (nI mn) (nI T.1) ks2 ct2 sm2 le2 gr2 fk fa))) (va_Ql (fun (r9 : Int64) (_ : Unit) => r9 = (if 0 ≤ pl ∧ pl < nI T.1 then T.2.2.1 pl.toNatClampNeg else 0)) (fun (_ : Unit) (t9 : State) => ((0 ≤ pl ∧ pl < nI T.1) → atM dC dI (va_A (wM b d cd (nI wn) (nI mn) (nI T.1) ks2 ct2 sm2 le2 gr2 fk fa) sz) b d 0 wn mn fk fa T t9) ∧ (¬ (0 ≤ pl ∧ pl < nI T.1) → atM dC dI (va_A (wM b d cd (nI wn) (nI mn) (nI T.1) ks2 ct2 sm2 le2 gr2 fk fa) sz) b d 1 wn mn fk fa T t9)) (va_A (wM b d cd (nI wn) (nI mn) (nI T.1) ks2 ct2 sm2 le2 gr2 fk fa) sz)) 0 0 (va_A (wM b d cd (nI wn) (nI mn) (nI T.1) ks2 ct2 sm2 le2 gr2 fk fa) sz) := by
  refine Met.ofW (cc := bM_count) (maxL := 2) (ret := (some .long)) (by decide) rfl ?_
  intro p e s m args below meth c s₁ B hml hv
  obtain ⟨rfl, hsz, hP, hK, hD0⟩ := hv
  have hx := B.exec
  have hb := B.bytes
  have hr := B.returns
  have hta : ∀ w ∈ wAll, w.before ([.ref (b 0), .int pl] : List Value).toArray s = true := fun w h => atoms_spec (ws := (Cond.code yM_count bM_count 2 (some .long) :: wAll)) B.pre w (List.mem_cons_of_mem _ h)
  have hown : s.vm.findClass "GroupRowsModel" = some m.cls := findClass_of_methodNamed B.named
  have hlocks := B.notSynchronized
  subst hsz
  have hD := hD0.self (sz := s.heap.size)
  generalize hAe : va_A (wM b d cd (nI wn) (nI mn) (nI T.1) ks2 ct2 sm2 le2 gr2 fk fa) s.heap.size = A at hD ⊢
  have hA : ∀ q : Nat, s.heap.size ≤ q → A q := fun q h => by rw [← hAe]; exact Or.inr h
  have hS : va_S A s.heap s.heap [] := va_S.rf
  have hP : va_P (dC, dI) classes (wM b d cd (nI wn) (nI mn) (nI T.1) ks2 ct2 sm2 le2 gr2 fk fa) s.heap := hP
  have hl := lv_entry ([.ref (b 0), .int pl]) (n := 2) (Nat.le_of_ble_eq_true rfl)
  rw [lg_entry_eq]
  generalize (lg_sl ([.ref (b 0), .int pl]) ++ List.replicate (2 - (lg_sl ([.ref (b 0), .int pl])).length) Slot.unset).toArray = ls at hl ⊢
  have hl : lv_has ls 2 [(0, .ref (b 0)), (1, .int pl)] := hl
  obtain ⟨⟨hwn, hmn1, hmn, hn⟩, hk9, hc9, hv9, hs9⟩ := id hrep
  refine lv_aload_n hx hb dM_count_0 rfl (lv_at hl 0 rfl) ?_
  refine lv_aload_n hx hb dM_count_1 rfl (lv_at hl 0 rfl) ?_
  refine lv_iload_n hx hb dM_count_2 rfl (lv_at hl 1 rfl) ?_
  refine gi_callR (v := .int (if 0 ≤ pl ∧ pl < nI T.1 then 1 else 0)) (W.runV (As := [.int pl]) (rest := [.ref (b 0)]) ⟨hx, hb, hml, hown, hta⟩ (c_isRow l dC dI b d cd (nI wn) (nI mn) (nI T.1) ks2 ct2 sm2 le2 gr2 fk fa pl) (cwV 1 hta (gV w386 w388 sM_isRow w2 w389) rfl rfl rfl (by decide +kernel) ⟨Nat.le_of_ble_eq_true rfl, Nat.le_of_ble_eq_true rfl⟩) ⟨gb_R, va_recv hK hP (ci := 1) (q0 := 0) rfl rfl, fun U hU hW => ⟨rfl, by rw [hU]; exact hP, va_K.moved hW.alike hK⟩⟩ rfl rfl hl.1 rfl (lv_room (Nat.le_of_ble_eq_true rfl)) dM_count_3 ⟨Nat.le_of_ble_eq_true rfl, Nat.le_of_ble_eq_true rfl⟩) ?_
  refine lv_if_eq (tgt := 13) hx hb dM_count_6 (by decide) (fun h1 => ?_) (fun h1 => ?_)
  · skip
    have hN : ¬ (0 ≤ pl ∧ pl < nI T.1) := fun q => by rw [if_pos q] at h1; exact absurd h1 (by decide)
    refine lv_iconst (v := 1) hx hb dM_count_13 (by decide) ?_
    refine va_put (D := (dC, dI)) (ci := 1) (v := .int 1) (ty := .int) (C := "GroupRowsModel") (T := FM) (N := 11) hx hb hta inM tM tMok nM hown hK hP hD hS 0 rfl rfl 0 (by decide) (hta _ w278) (fun _ h9 => h9) rfl (by decide +kernel) rfl rfl (Nat.le_of_ble_eq_true rfl) dM_count_14 (fun H locs hP hD hS => ?_)
    have hP : va_P (dC, dI) classes (wM b d 1 (nI wn) (nI mn) (nI T.1) ks2 ct2 sm2 le2 gr2 fk fa) H := hP
    have hD : va_D A (wM b d 1 (nI wn) (nI mn) (nI T.1) ks2 ct2 sm2 le2 gr2 fk fa) := hD
    refine lv_aload_n hx hb dM_count_17 rfl (lv_at hl 0 rfl) ?_
    refine va_get (D := (dC, dI)) (ci := 1) (v := .int 1) (C := "GroupRowsModel") (T := FM) (N := 11) hx hb hta inM hown hK hP 0 rfl rfl 0 (by decide) (hta _ w278) (fun _ h9 => h9) rfl dM_count_18 ?_
    refine lv_if_le (tgt := 28) hx hb dM_count_21 (by decide) (fun hz => ?_) (fun hz => ?_)
    · skip
      exact absurd hz (by decide)
    · skip
      refine lv_lconst (v := 0) hx hb dM_count_24 (by decide) ?_
      refine lv_goto (tgt := 34) hx hb dM_count_25 (by decide) ?_
      exact W.lret (v := 0) hx hb hr (fun t9 ht9 hW9 => ⟨⟨0, (), rfl, (if_neg (hN)).symm, ⟨fun h9 => absurd h9 (hN), fun _ => ⟨_, _, _, _, _, hrep, by rw [ht9]; exact hP, va_K.moved hW9.alike hK, hD⟩⟩⟩, hS.F ht9⟩) hS.2.2 dM_count_34
  · skip
    have hL1 : 0 ≤ pl ∧ pl < nI T.1 := by
      by_cases q : 0 ≤ pl ∧ pl < nI T.1
      · exact q
      · rw [if_neg q] at h1; exact absurd rfl h1
    refine lv_iconst (v := 0) hx hb dM_count_9 (by decide) ?_
    refine lv_goto (tgt := 14) hx hb dM_count_10 (by decide) ?_
    refine va_put (D := (dC, dI)) (ci := 1) (v := .int 0) (ty := .int) (C := "GroupRowsModel") (T := FM) (N := 11) hx hb hta inM tM tMok nM hown hK hP hD hS 0 rfl rfl 0 (by decide) (hta _ w278) (fun _ h9 => h9) rfl (by decide +kernel) rfl rfl (Nat.le_of_ble_eq_true rfl) dM_count_14 (fun H locs hP hD hS => ?_)
    have hP : va_P (dC, dI) classes (wM b d 0 (nI wn) (nI mn) (nI T.1) ks2 ct2 sm2 le2 gr2 fk fa) H := hP
    have hD : va_D A (wM b d 0 (nI wn) (nI mn) (nI T.1) ks2 ct2 sm2 le2 gr2 fk fa) := hD
    refine lv_aload_n hx hb dM_count_17 rfl (lv_at hl 0 rfl) ?_
    refine va_get (D := (dC, dI)) (ci := 1) (v := .int 0) (C := "GroupRowsModel") (T := FM) (N := 11) hx hb hta inM hown hK hP 0 rfl rfl 0 (by decide) (hta _ w278) (fun _ h9 => h9) rfl dM_count_18 ?_
    refine lv_if_le (tgt := 28) hx hb dM_count_21 (by decide) (fun hz => ?_) (fun hz => ?_)
    rotate_left
    · skip
      exact absurd (by decide) hz
    · skip
      obtain ⟨p0, hp0, ep, cp⟩ := in_nI (by omega) hL1
      subst ep
      refine lv_aload_n hx hb dM_count_28 rfl (lv_at hl 0 rfl) ?_
      refine va_get (D := (dC, dI)) (ci := 1) (v := .ref (b 2)) (C := "GroupRowsModel") (T := FM) (N := 11) hx hb hta inM hown hK hP 0 rfl rfl 5 (by decide) (hta _ w283) (fun _ h9 => h9) rfl dM_count_29 ?_
      refine lv_iload_n hx hb dM_count_32 rfl (lv_at hl 1 rfl) ?_
      refine gi_lald hx hb hK hP 2 1 rfl rfl (k := p0) (by omega) (by decide) dM_count_33 ?_
      refine gi_asl (y := T.2.2.1 p0) (hc9 p0 hp0) ?_
      exact W.lret (v := (T.2.2.1 p0)) hx hb hr (fun t9 ht9 hW9 => ⟨⟨(T.2.2.1 p0), (), rfl, by rw [if_pos hL1, cp], ⟨fun _ => ⟨_, _, _, _, _, hrep, by rw [ht9]; exact hP, va_K.moved hW9.alike hK, hD⟩, fun h9 => absurd (hL1) h9⟩⟩, hS.F ht9⟩) hS.2.2 dM_count_34
set_option maxHeartbeats 4000000 in
set_option maxRecDepth 100000 in
theorem c_Mtold (l : Launch) (dC : Nat → ClassId) (dI : Nat → Nat → Nat) (b : Nat → Nat) (d : Nat → ClassId) (cd : Int32) (wn mn : Nat) (fk : Nat → Int32) (fa : Nat → Int64) (T : TB) (ks2 : Nat → Int32) (ct2 sm2 le2 gr2 : Nat → Int64) (hrep : repT (fun p => p) wn mn T ks2 ct2 sm2 le2 gr2) (pl m0 wh : Int32) (sz : Nat)  : Met l yM_told (Cond.code yM_told bM_told 4 (some .long) :: wAll) { frames := 3, cells := 0, slots := 0, locals := 128 } (va_Pc [.ref (b 0), .int pl, .int m0, .int wh] (fun U => U.heap.size = sz ∧ va_P (dC, dI) classes (wM b d cd (nI wn) (nI mn) (nI T.1) ks2 ct2 sm2 le2 gr2 fk fa) U.heap ∧ va_K (dC, dI) classes (kM d) U ∧ va_D (fun _ => True) (wM b d cd (nI wn) (nI mn) (nI T.1) ks2 ct2 sm2 le2 gr2 fk fa))) (va_Ql (fun (r9 : Int64) (_ : Unit) => r9 = (if (0 ≤ pl ∧ pl < nI T.1) ∧ (0 ≤ m0 ∧ m0 < nI mn) ∧ 0 ≤ wh ∧ wh ≤ 2 then (if wh = 0 then T.2.2.2.1 pl.toNatClampNeg m0.toNatClampNeg else if wh = 1 then T.2.2.2.2.1 pl.toNatClampNeg m0.toNatClampNeg else T.2.2.2.2.2 pl.toNatClampNeg m0.toNatClampNeg) else 0)) (fun (_ : Unit) (t9 : State) => (((0 ≤ pl ∧ pl < nI T.1) ∧ (0 ≤ m0 ∧ m0 < nI mn) ∧ 0 ≤ wh ∧ wh ≤ 2) → atM dC dI (va_A (wM b d cd (nI wn) (nI mn) (nI T.1) ks2 ct2 sm2 le2 gr2 fk fa) sz) b d 0 wn mn fk fa T t9) ∧ (¬ ((0 ≤ pl ∧ pl < nI T.1) ∧ (0 ≤ m0 ∧ m0 < nI mn) ∧ 0 ≤ wh ∧ wh ≤ 2) → atM dC dI (va_A (wM b d cd (nI wn) (nI mn) (nI T.1) ks2 ct2 sm2 le2 gr2 fk fa) sz) b d 1 wn mn fk fa T t9)) (va_A (wM b d cd (nI wn) (nI mn) (nI T.1) ks2 ct2 sm2 le2 gr2 fk fa) sz)) 0 0 (va_A (wM b d cd (nI wn) (nI mn) (nI T.1) ks2 ct2 sm2 le2 gr2 fk fa) sz) := by
  refine Met.ofW (cc := bM_told) (maxL := 4) (ret := (some .long)) (by decide) rfl ?_
  intro p e s m args below meth c s₁ B hml hv
  obtain ⟨rfl, hsz, hP, hK, hD0⟩ := hv
  have hx := B.exec
  have hb := B.bytes
  have hr := B.returns
  have hta : ∀ w ∈ wAll, w.before ([.ref (b 0), .int pl, .int m0, .int wh] : List Value).toArray s = true := fun w h => atoms_spec (ws := (Cond.code yM_told bM_told 4 (some .long) :: wAll)) B.pre w (List.mem_cons_of_mem _ h)
  have hown : s.vm.findClass "GroupRowsModel" = some m.cls := findClass_of_methodNamed B.named
  have hlocks := B.notSynchronized
  subst hsz
  have hD := hD0.self (sz := s.heap.size)
  generalize hAe : va_A (wM b d cd (nI wn) (nI mn) (nI T.1) ks2 ct2 sm2 le2 gr2 fk fa) s.heap.size = A at hD ⊢
  have hA : ∀ q : Nat, s.heap.size ≤ q → A q := fun q h => by rw [← hAe]; exact Or.inr h
  have hS : va_S A s.heap s.heap [] := va_S.rf
  have hP : va_P (dC, dI) classes (wM b d cd (nI wn) (nI mn) (nI T.1) ks2 ct2 sm2 le2 gr2 fk fa) s.heap := hP
  have hl := lv_entry ([.ref (b 0), .int pl, .int m0, .int wh]) (n := 4) (Nat.le_of_ble_eq_true rfl)
  rw [lg_entry_eq]
  generalize (lg_sl ([.ref (b 0), .int pl, .int m0, .int wh]) ++ List.replicate (4 - (lg_sl ([.ref (b 0), .int pl, .int m0, .int wh])).length) Slot.unset).toArray = ls at hl ⊢
  have hl : lv_has ls 4 [(0, .ref (b 0)), (1, .int pl), (2, .int m0), (3, .int wh)] := hl
  obtain ⟨⟨hwn, hmn1, hmn, hn⟩, hk9, hc9, hv9, hs9⟩ := id hrep
  refine lv_aload_n hx hb dM_told_0 rfl (lv_at hl 0 rfl) ?_
  refine lv_aload_n hx hb dM_told_1 rfl (lv_at hl 0 rfl) ?_
  refine lv_iload_n hx hb dM_told_2 rfl (lv_at hl 1 rfl) ?_
  refine gi_callR (v := .int (if 0 ≤ pl ∧ pl < nI T.1 then 1 else 0)) (W.runV (As := [.int pl]) (rest := [.ref (b 0)]) ⟨hx, hb, hml, hown, hta⟩ (c_isRow l dC dI b d cd (nI wn) (nI mn) (nI T.1) ks2 ct2 sm2 le2 gr2 fk fa pl) (cwV 1 hta (gV w386 w388 sM_isRow w2 w389) rfl rfl rfl (by decide +kernel) ⟨Nat.le_of_ble_eq_true rfl, Nat.le_of_ble_eq_true rfl⟩) ⟨gb_R, va_recv hK hP (ci := 1) (q0 := 0) rfl rfl, fun U hU hW => ⟨rfl, by rw [hU]; exact hP, va_K.moved hW.alike hK⟩⟩ rfl rfl hl.1 rfl (lv_room (Nat.le_of_ble_eq_true rfl)) dM_told_3 ⟨Nat.le_of_ble_eq_true rfl, Nat.le_of_ble_eq_true rfl⟩) ?_
  refine lv_if_eq (tgt := 34) hx hb dM_told_6 (by decide) (fun h1 => ?_) (fun h1 => ?_)
  · skip
    have hN : ¬ (0 ≤ pl ∧ pl < nI T.1) := fun q => by rw [if_pos q] at h1; exact absurd h1 (by decide)
    refine lv_iconst (v := 1) hx hb dM_told_34 (by decide) ?_
    refine va_put (D := (dC, dI)) (ci := 1) (v := .int 1) (ty := .int) (C := "GroupRowsModel") (T := FM) (N := 11) hx hb hta inM tM tMok nM hown hK hP hD hS 0 rfl rfl 0 (by decide) (hta _ w278) (fun _ h9 => h9) rfl (by decide +kernel) rfl rfl (Nat.le_of_ble_eq_true rfl) dM_told_35 (fun H locs hP hD hS => ?_)
    have hP : va_P (dC, dI) classes (wM b d 1 (nI wn) (nI mn) (nI T.1) ks2 ct2 sm2 le2 gr2 fk fa) H := hP
    have hD : va_D A (wM b d 1 (nI wn) (nI mn) (nI T.1) ks2 ct2 sm2 le2 gr2 fk fa) := hD
    refine lv_aload_n hx hb dM_told_38 rfl (lv_at hl 0 rfl) ?_
    refine va_get (D := (dC, dI)) (ci := 1) (v := .int 1) (C := "GroupRowsModel") (T := FM) (N := 11) hx hb hta inM hown hK hP 0 rfl rfl 0 (by decide) (hta _ w278) (fun _ h9 => h9) rfl dM_told_39 ?_
    refine lv_if_le (tgt := 47) hx hb dM_told_42 (by decide) (fun hz => ?_) (fun hz => ?_)
    · skip
      exact absurd hz (by decide)
    · skip
      refine lv_lconst (v := 0) hx hb dM_told_45 (by decide) ?_
      exact W.lret (v := 0) hx hb hr (fun t9 ht9 hW9 => ⟨⟨0, (), rfl, (if_neg (fun q => hN q.1)).symm, ⟨fun h9 => absurd h9 (fun q => hN q.1), fun _ => ⟨_, _, _, _, _, hrep, by rw [ht9]; exact hP, va_K.moved hW9.alike hK, hD⟩⟩⟩, hS.F ht9⟩) hS.2.2 dM_told_46
  · skip
    have hL1 : 0 ≤ pl ∧ pl < nI T.1 := by
      by_cases q : 0 ≤ pl ∧ pl < nI T.1
      · exact q
      · rw [if_neg q] at h1; exact absurd rfl h1
    refine lv_iload_n hx hb dM_told_9 rfl (lv_at hl 2 rfl) ?_
    refine lv_if_lt (tgt := 34) hx hb dM_told_10 (by decide) (fun h2 => ?_) (fun h2 => ?_)
    · skip
      refine lv_iconst (v := 1) hx hb dM_told_34 (by decide) ?_
      refine va_put (D := (dC, dI)) (ci := 1) (v := .int 1) (ty := .int) (C := "GroupRowsModel") (T := FM) (N := 11) hx hb hta inM tM tMok nM hown hK hP hD hS 0 rfl rfl 0 (by decide) (hta _ w278) (fun _ h9 => h9) rfl (by decide +kernel) rfl rfl (Nat.le_of_ble_eq_true rfl) dM_told_35 (fun H locs hP hD hS => ?_)
      have hP : va_P (dC, dI) classes (wM b d 1 (nI wn) (nI mn) (nI T.1) ks2 ct2 sm2 le2 gr2 fk fa) H := hP
      have hD : va_D A (wM b d 1 (nI wn) (nI mn) (nI T.1) ks2 ct2 sm2 le2 gr2 fk fa) := hD
      refine lv_aload_n hx hb dM_told_38 rfl (lv_at hl 0 rfl) ?_
      refine va_get (D := (dC, dI)) (ci := 1) (v := .int 1) (C := "GroupRowsModel") (T := FM) (N := 11) hx hb hta inM hown hK hP 0 rfl rfl 0 (by decide) (hta _ w278) (fun _ h9 => h9) rfl dM_told_39 ?_
      refine lv_if_le (tgt := 47) hx hb dM_told_42 (by decide) (fun hz => ?_) (fun hz => ?_)
      · skip
        exact absurd hz (by decide)
      · skip
        refine lv_lconst (v := 0) hx hb dM_told_45 (by decide) ?_
        exact W.lret (v := 0) hx hb hr (fun t9 ht9 hW9 => ⟨⟨0, (), rfl, (if_neg (fun q => absurd q.2.1.1 (Int32.not_le.mpr h2))).symm, ⟨fun h9 => absurd h9 (fun q => absurd q.2.1.1 (Int32.not_le.mpr h2)), fun _ => ⟨_, _, _, _, _, hrep, by rw [ht9]; exact hP, va_K.moved hW9.alike hK, hD⟩⟩⟩, hS.F ht9⟩) hS.2.2 dM_told_46
    · skip
      refine lv_iload_n hx hb dM_told_13 rfl (lv_at hl 2 rfl) ?_
      refine lv_aload_n hx hb dM_told_14 rfl (lv_at hl 0 rfl) ?_
      refine va_get (D := (dC, dI)) (ci := 1) (v := .int (nI mn)) (C := "GroupRowsModel") (T := FM) (N := 11) hx hb hta inM hown hK hP 0 rfl rfl 2 (by decide) (hta _ w280) (fun _ h9 => h9) rfl dM_told_15 ?_
      refine lv_icmp_ge (tgt := 34) hx hb dM_told_18 (by decide) (fun h3 => ?_) (fun h3 => ?_)
      · skip
        refine lv_iconst (v := 1) hx hb dM_told_34 (by decide) ?_
        refine va_put (D := (dC, dI)) (ci := 1) (v := .int 1) (ty := .int) (C := "GroupRowsModel") (T := FM) (N := 11) hx hb hta inM tM tMok nM hown hK hP hD hS 0 rfl rfl 0 (by decide) (hta _ w278) (fun _ h9 => h9) rfl (by decide +kernel) rfl rfl (Nat.le_of_ble_eq_true rfl) dM_told_35 (fun H locs hP hD hS => ?_)
        have hP : va_P (dC, dI) classes (wM b d 1 (nI wn) (nI mn) (nI T.1) ks2 ct2 sm2 le2 gr2 fk fa) H := hP
        have hD : va_D A (wM b d 1 (nI wn) (nI mn) (nI T.1) ks2 ct2 sm2 le2 gr2 fk fa) := hD
        refine lv_aload_n hx hb dM_told_38 rfl (lv_at hl 0 rfl) ?_
        refine va_get (D := (dC, dI)) (ci := 1) (v := .int 1) (C := "GroupRowsModel") (T := FM) (N := 11) hx hb hta inM hown hK hP 0 rfl rfl 0 (by decide) (hta _ w278) (fun _ h9 => h9) rfl dM_told_39 ?_
        refine lv_if_le (tgt := 47) hx hb dM_told_42 (by decide) (fun hz => ?_) (fun hz => ?_)
        · skip
          exact absurd hz (by decide)
        · skip
          refine lv_lconst (v := 0) hx hb dM_told_45 (by decide) ?_
          exact W.lret (v := 0) hx hb hr (fun t9 ht9 hW9 => ⟨⟨0, (), rfl, (if_neg (fun q => absurd q.2.1.2 (Int32.not_lt.mpr h3))).symm, ⟨fun h9 => absurd h9 (fun q => absurd q.2.1.2 (Int32.not_lt.mpr h3)), fun _ => ⟨_, _, _, _, _, hrep, by rw [ht9]; exact hP, va_K.moved hW9.alike hK, hD⟩⟩⟩, hS.F ht9⟩) hS.2.2 dM_told_46
      · skip
        refine lv_iload_n hx hb dM_told_21 rfl (lv_at hl 3 rfl) ?_
        refine lv_if_lt (tgt := 34) hx hb dM_told_22 (by decide) (fun h4 => ?_) (fun h4 => ?_)
        · skip
          refine lv_iconst (v := 1) hx hb dM_told_34 (by decide) ?_
          refine va_put (D := (dC, dI)) (ci := 1) (v := .int 1) (ty := .int) (C := "GroupRowsModel") (T := FM) (N := 11) hx hb hta inM tM tMok nM hown hK hP hD hS 0 rfl rfl 0 (by decide) (hta _ w278) (fun _ h9 => h9) rfl (by decide +kernel) rfl rfl (Nat.le_of_ble_eq_true rfl) dM_told_35 (fun H locs hP hD hS => ?_)
          have hP : va_P (dC, dI) classes (wM b d 1 (nI wn) (nI mn) (nI T.1) ks2 ct2 sm2 le2 gr2 fk fa) H := hP
          have hD : va_D A (wM b d 1 (nI wn) (nI mn) (nI T.1) ks2 ct2 sm2 le2 gr2 fk fa) := hD
          refine lv_aload_n hx hb dM_told_38 rfl (lv_at hl 0 rfl) ?_
          refine va_get (D := (dC, dI)) (ci := 1) (v := .int 1) (C := "GroupRowsModel") (T := FM) (N := 11) hx hb hta inM hown hK hP 0 rfl rfl 0 (by decide) (hta _ w278) (fun _ h9 => h9) rfl dM_told_39 ?_
          refine lv_if_le (tgt := 47) hx hb dM_told_42 (by decide) (fun hz => ?_) (fun hz => ?_)
          · skip
            exact absurd hz (by decide)
          · skip
            refine lv_lconst (v := 0) hx hb dM_told_45 (by decide) ?_
            exact W.lret (v := 0) hx hb hr (fun t9 ht9 hW9 => ⟨⟨0, (), rfl, (if_neg (fun q => absurd q.2.2.1 (Int32.not_le.mpr h4))).symm, ⟨fun h9 => absurd h9 (fun q => absurd q.2.2.1 (Int32.not_le.mpr h4)), fun _ => ⟨_, _, _, _, _, hrep, by rw [ht9]; exact hP, va_K.moved hW9.alike hK, hD⟩⟩⟩, hS.F ht9⟩) hS.2.2 dM_told_46
        · skip
          refine lv_iload_n hx hb dM_told_25 rfl (lv_at hl 3 rfl) ?_
          refine lv_iconst (v := 2) hx hb dM_told_26 (by decide) ?_
          refine lv_icmp_gt (tgt := 34) hx hb dM_told_27 (by decide) (fun h5 => ?_) (fun h5 => ?_)
          · skip
            refine lv_iconst (v := 1) hx hb dM_told_34 (by decide) ?_
            refine va_put (D := (dC, dI)) (ci := 1) (v := .int 1) (ty := .int) (C := "GroupRowsModel") (T := FM) (N := 11) hx hb hta inM tM tMok nM hown hK hP hD hS 0 rfl rfl 0 (by decide) (hta _ w278) (fun _ h9 => h9) rfl (by decide +kernel) rfl rfl (Nat.le_of_ble_eq_true rfl) dM_told_35 (fun H locs hP hD hS => ?_)
            have hP : va_P (dC, dI) classes (wM b d 1 (nI wn) (nI mn) (nI T.1) ks2 ct2 sm2 le2 gr2 fk fa) H := hP
            have hD : va_D A (wM b d 1 (nI wn) (nI mn) (nI T.1) ks2 ct2 sm2 le2 gr2 fk fa) := hD
            refine lv_aload_n hx hb dM_told_38 rfl (lv_at hl 0 rfl) ?_
            refine va_get (D := (dC, dI)) (ci := 1) (v := .int 1) (C := "GroupRowsModel") (T := FM) (N := 11) hx hb hta inM hown hK hP 0 rfl rfl 0 (by decide) (hta _ w278) (fun _ h9 => h9) rfl dM_told_39 ?_
            refine lv_if_le (tgt := 47) hx hb dM_told_42 (by decide) (fun hz => ?_) (fun hz => ?_)
            · skip
              exact absurd hz (by decide)
            · skip
              refine lv_lconst (v := 0) hx hb dM_told_45 (by decide) ?_
              exact W.lret (v := 0) hx hb hr (fun t9 ht9 hW9 => ⟨⟨0, (), rfl, (if_neg (fun q => absurd q.2.2.2 (Int32.not_le.mpr h5))).symm, ⟨fun h9 => absurd h9 (fun q => absurd q.2.2.2 (Int32.not_le.mpr h5)), fun _ => ⟨_, _, _, _, _, hrep, by rw [ht9]; exact hP, va_K.moved hW9.alike hK, hD⟩⟩⟩, hS.F ht9⟩) hS.2.2 dM_told_46
          · skip
            refine lv_iconst (v := 0) hx hb dM_told_30 (by decide) ?_
            refine lv_goto (tgt := 35) hx hb dM_told_31 (by decide) ?_
            refine va_put (D := (dC, dI)) (ci := 1) (v := .int 0) (ty := .int) (C := "GroupRowsModel") (T := FM) (N := 11) hx hb hta inM tM tMok nM hown hK hP hD hS 0 rfl rfl 0 (by decide) (hta _ w278) (fun _ h9 => h9) rfl (by decide +kernel) rfl rfl (Nat.le_of_ble_eq_true rfl) dM_told_35 (fun H locs hP hD hS => ?_)
            have hP : va_P (dC, dI) classes (wM b d 0 (nI wn) (nI mn) (nI T.1) ks2 ct2 sm2 le2 gr2 fk fa) H := hP
            have hD : va_D A (wM b d 0 (nI wn) (nI mn) (nI T.1) ks2 ct2 sm2 le2 gr2 fk fa) := hD
            refine lv_aload_n hx hb dM_told_38 rfl (lv_at hl 0 rfl) ?_
            refine va_get (D := (dC, dI)) (ci := 1) (v := .int 0) (C := "GroupRowsModel") (T := FM) (N := 11) hx hb hta inM hown hK hP 0 rfl rfl 0 (by decide) (hta _ w278) (fun _ h9 => h9) rfl dM_told_39 ?_
            refine lv_if_le (tgt := 47) hx hb dM_told_42 (by decide) (fun hz => ?_) (fun hz => ?_)
            rotate_left
            · skip
              exact absurd (by decide) hz
            · skip
              have hL : (0 ≤ pl ∧ pl < nI T.1) ∧ (0 ≤ m0 ∧ m0 < nI mn) ∧ 0 ≤ wh ∧ wh ≤ 2 := ⟨hL1, ⟨Int32.not_lt.mp h2, Int32.not_le.mp h3⟩, Int32.not_lt.mp h4, Int32.not_lt.mp h5⟩
              obtain ⟨p0, hp0, ep, cp⟩ := in_nI (by omega) hL.1
              obtain ⟨j, hj, ej, cj⟩ := in_nI (by omega) hL.2.1
              subst ep
              subst ej
              refine lv_iload_n hx hb dM_told_47 rfl (lv_at hl 3 rfl) ?_
              refine lv_if_ne (tgt := 65) hx hb dM_told_48 (by decide) (fun h6 => ?_) (fun h6 => ?_)
              · skip
                refine lv_iload_n hx hb dM_told_65 rfl (lv_at hl 3 rfl) ?_
                refine lv_iconst (v := 1) hx hb dM_told_66 (by decide) ?_
                refine lv_icmp_ne (tgt := 84) hx hb dM_told_67 (by decide) (fun h7 => ?_) (fun h7 => ?_)
                · skip
                  refine lv_aload_n hx hb dM_told_84 rfl (lv_at hl 0 rfl) ?_
                  refine va_get (D := (dC, dI)) (ci := 1) (v := .ref (b 5)) (C := "GroupRowsModel") (T := FM) (N := 11) hx hb hta inM hown hK hP 0 rfl rfl 8 (by decide) (hta _ w286) (fun _ h9 => h9) rfl dM_told_85 ?_
                  refine lv_bipush (v := 8) hx hb dM_told_88 (by decide) ?_
                  refine lv_iload_n hx hb dM_told_90 rfl (lv_at hl 1 rfl) ?_
                  refine lv_imul hx hb dM_told_91 ?_
                  refine gi_as (y := nI (8 * p0)) (gi_8mul _) ?_
                  refine lv_iload_n hx hb dM_told_92 rfl (lv_at hl 2 rfl) ?_
                  refine lv_iadd hx hb dM_told_93 ?_
                  refine gi_as (y := nI ((8 * p0) + j)) (nI_add _ _) ?_
                  refine gi_lald hx hb hK hP 5 4 rfl rfl (k := ((8 * p0) + j)) (by omega) (by decide) dM_told_94 ?_
                  refine gi_asl (y := T.2.2.2.2.2 p0 j) ((hv9 p0 j hp0 hj).2.2) ?_
                  exact W.lret (v := (T.2.2.2.2.2 p0 j)) hx hb hr (fun t9 ht9 hW9 => ⟨⟨(T.2.2.2.2.2 p0 j), (), rfl, by rw [if_pos hL, cp, cj, if_neg h6, if_neg h7], ⟨fun _ => ⟨_, _, _, _, _, hrep, by rw [ht9]; exact hP, va_K.moved hW9.alike hK, hD⟩, fun h9 => absurd (hL) h9⟩⟩, hS.F ht9⟩) hS.2.2 dM_told_95
                · skip
                  refine lv_aload_n hx hb dM_told_70 rfl (lv_at hl 0 rfl) ?_
                  refine va_get (D := (dC, dI)) (ci := 1) (v := .ref (b 4)) (C := "GroupRowsModel") (T := FM) (N := 11) hx hb hta inM hown hK hP 0 rfl rfl 7 (by decide) (hta _ w285) (fun _ h9 => h9) rfl dM_told_71 ?_
                  refine lv_bipush (v := 8) hx hb dM_told_74 (by decide) ?_
                  refine lv_iload_n hx hb dM_told_76 rfl (lv_at hl 1 rfl) ?_
                  refine lv_imul hx hb dM_told_77 ?_
                  refine gi_as (y := nI (8 * p0)) (gi_8mul _) ?_
                  refine lv_iload_n hx hb dM_told_78 rfl (lv_at hl 2 rfl) ?_
                  refine lv_iadd hx hb dM_told_79 ?_
                  refine gi_as (y := nI ((8 * p0) + j)) (nI_add _ _) ?_
                  refine gi_lald hx hb hK hP 4 3 rfl rfl (k := ((8 * p0) + j)) (by omega) (by decide) dM_told_80 ?_
                  refine gi_asl (y := T.2.2.2.2.1 p0 j) ((hv9 p0 j hp0 hj).2.1) ?_
                  refine lv_goto (tgt := 95) hx hb dM_told_81 (by decide) ?_
                  exact W.lret (v := (T.2.2.2.2.1 p0 j)) hx hb hr (fun t9 ht9 hW9 => ⟨⟨(T.2.2.2.2.1 p0 j), (), rfl, by rw [if_pos hL, cp, cj, if_neg h6, if_pos h7], ⟨fun _ => ⟨_, _, _, _, _, hrep, by rw [ht9]; exact hP, va_K.moved hW9.alike hK, hD⟩, fun h9 => absurd (hL) h9⟩⟩, hS.F ht9⟩) hS.2.2 dM_told_95
              · skip
                refine lv_aload_n hx hb dM_told_51 rfl (lv_at hl 0 rfl) ?_
                refine va_get (D := (dC, dI)) (ci := 1) (v := .ref (b 3)) (C := "GroupRowsModel") (T := FM) (N := 11) hx hb hta inM hown hK hP 0 rfl rfl 6 (by decide) (hta _ w284) (fun _ h9 => h9) rfl dM_told_52 ?_
                refine lv_bipush (v := 8) hx hb dM_told_55 (by decide) ?_
                refine lv_iload_n hx hb dM_told_57 rfl (lv_at hl 1 rfl) ?_
                refine lv_imul hx hb dM_told_58 ?_
                refine gi_as (y := nI (8 * p0)) (gi_8mul _) ?_
                refine lv_iload_n hx hb dM_told_59 rfl (lv_at hl 2 rfl) ?_
                refine lv_iadd hx hb dM_told_60 ?_
                refine gi_as (y := nI ((8 * p0) + j)) (nI_add _ _) ?_
                refine gi_lald hx hb hK hP 3 2 rfl rfl (k := ((8 * p0) + j)) (by omega) (by decide) dM_told_61 ?_
                refine gi_asl (y := T.2.2.2.1 p0 j) ((hv9 p0 j hp0 hj).1) ?_
                refine lv_goto (tgt := 95) hx hb dM_told_62 (by decide) ?_
                exact W.lret (v := (T.2.2.2.1 p0 j)) hx hb hr (fun t9 ht9 hW9 => ⟨⟨(T.2.2.2.1 p0 j), (), rfl, by rw [if_pos hL, cp, cj, if_pos h6], ⟨fun _ => ⟨_, _, _, _, _, hrep, by rw [ht9]; exact hP, va_K.moved hW9.alike hK, hD⟩, fun h9 => absurd (hL) h9⟩⟩, hS.F ht9⟩) hS.2.2 dM_told_95
