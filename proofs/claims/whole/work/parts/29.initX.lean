def TB0 : TB := (0, fun _ _ => 0, fun _ => 0, fun _ _ => 0, fun _ _ => 0, fun _ _ => 0)
theorem rep_0 {σ : Nat → Nat} {w mn : Nat} {ks : Nat → Int32} {ct sm le gr : Nat → Int64} (h1 : w ≤ 8) (h2 : 1 ≤ mn) (h3 : mn ≤ 8) : repT σ w mn TB0 ks ct sm le gr := ⟨⟨h1, h2, h3, Nat.zero_le _⟩, fun p hp => absurd hp (Nat.not_lt_zero p), fun p hp => absurd hp (Nat.not_lt_zero p), fun p m hp => absurd hp (Nat.not_lt_zero p), fun p q _ h => absurd h (Nat.not_lt_zero q)⟩
theorem perm_id : perm (fun p => p) (upToI (fun m _ => nI m) 0 (fun _ => 0) 1000) := ⟨fun p hp => by have := upToI_at (g := fun m _ => nI m) (q8 := 0) (f := fun _ => 0) 1000 hp; rw [Nat.zero_add] at this; exact this, fun p hp => hp, fun p q _ _ h => h⟩
set_option maxHeartbeats 4000000 in
set_option maxRecDepth 100000 in
/-- the constructor of the class -/
theorem c_Xinit (l : Launch) (dC : Nat → ClassId) (dI : Nat → Nat → Nat) (h0 sz : Nat) : Met l yX_init (Cond.code yX_init bX_init 2 none :: wAll) { frames := 1, cells := 8, slots := 34016, locals := 32 } (va_Pc [.ref h0] (fun U => U.heap.size = sz ∧ va_P (dC, dI) classes [(h0, .inr (0, [.int 0, .int 0, .int 0, .null, .null, .null, .null, .null, .null, .null, .null]))] U.heap ∧ va_K (dC, dI) classes [] U ∧ va_D (fun _ => True) [(h0, .inr (0, [.int 0, .int 0, .int 0, .null, .null, .null, .null, .null, .null, .null, .null]))])) (va_Qv (fun _ : Unit => True) (fun (_ : Unit) (t9 : State) => ∃ (a : Nat → Nat) (k : Nat → ClassId), a 0 = h0 ∧ atX dC dI (va_A [(h0, .inr (0, [.int 0, .int 0, .int 0, .null, .null, .null, .null, .null, .null, .null, .null]))] sz) a k 0 1 (fun _ => 0) (fun _ => 0) TB0 t9) (va_A [(h0, .inr (0, [.int 0, .int 0, .int 0, .null, .null, .null, .null, .null, .null, .null, .null]))] sz)) 8 34016 (va_A [(h0, .inr (0, [.int 0, .int 0, .int 0, .null, .null, .null, .null, .null, .null, .null, .null]))] sz) := by
  refine Met.ofW (cc := bX_init) (maxL := 2) (ret := none) (by decide) rfl ?_
  intro p e s m args below meth c s₁ B hml hv
  obtain ⟨rfl, hsz, hP, hK, hD0⟩ := hv
  have hx := B.exec
  have hb := B.bytes
  have hr := B.returns
  have hta : ∀ w ∈ wAll, w.before ([.ref h0] : List Value).toArray s = true := fun w h => atoms_spec (ws := (Cond.code yX_init bX_init 2 none :: wAll)) B.pre w (List.mem_cons_of_mem _ h)
  have hown : s.vm.findClass "GroupRows" = some m.cls := findClass_of_methodNamed B.named
  have hlocks := B.notSynchronized
  have hin : meth.name = "<init>" := (name_of_methodNamed B.named B.method).1
  subst hsz
  have hD := hD0.self (sz := s.heap.size)
  generalize hAe : va_A [(h0, .inr (0, [.int 0, .int 0, .int 0, .null, .null, .null, .null, .null, .null, .null, .null]))] s.heap.size = A at hD ⊢
  have hA : ∀ q : Nat, s.heap.size ≤ q → A q := fun q h => by rw [← hAe]; exact Or.inr h
  have hS : va_S A s.heap s.heap [] := va_S.rf
  have hP : va_P (dC, dI) classes [(h0, .inr (0, [.int 0, .int 0, .int 0, .null, .null, .null, .null, .null, .null, .null, .null]))] s.heap := hP
  have hl := lv_entry ([.ref h0]) (n := 2) (Nat.le_of_ble_eq_true rfl)
  rw [lg_entry_eq]
  generalize (lg_sl ([.ref h0]) ++ List.replicate (2 - (lg_sl ([.ref h0])).length) Slot.unset).toArray = ls at hl ⊢
  have hl : lv_has ls 2 [(0, .ref h0)] := hl
  refine lv_aload_n hx hb dX_init_0 rfl (lv_at hl 0 rfl) ?_
  refine W.objInit hx hb hown (hta _ w16) (hta _ w17) (hta _ w18) rfl (by rw [hml]; exact hl.1) rfl dX_init_1 (Nat.le_of_ble_eq_true rfl) (Nat.le_of_ble_eq_true rfl) ?_
  refine W.eq (g2 := F0 m 4 ls []) rfl ?_
  refine lv_aload_n hx hb dX_init_4 rfl (lv_at hl 0 rfl) ?_
  refine lv_iconst (v := 0) hx hb dX_init_5 (by decide) ?_
  refine va_put (D := (dC, dI)) (ci := 0) (v := .int 0) (ty := .int) (C := "GroupRows") (T := FX) (N := 11) hx hb hta inX tX tXok nX hown hK hP hD hS 0 rfl rfl 0 (by decide) (hta _ w19) (fun _ h9 => h9) rfl (by decide +kernel) rfl rfl (Nat.le_of_ble_eq_true rfl) dX_init_6 (fun H locs hP hD hS => ?_)
  have hP : va_P (dC, dI) classes [(h0, .inr (0, [.int 0, .int 0, .int 0, .null, .null, .null, .null, .null, .null, .null, .null]))] H := hP
  have hD : va_D A [(h0, .inr (0, [.int 0, .int 0, .int 0, .null, .null, .null, .null, .null, .null, .null, .null]))] := hD
  refine lv_aload_n hx hb dX_init_9 rfl (lv_at hl 0 rfl) ?_
  refine lv_iconst (v := 1) hx hb dX_init_10 (by decide) ?_
  refine va_put (D := (dC, dI)) (ci := 0) (v := .int 1) (ty := .int) (C := "GroupRows") (T := FX) (N := 11) hx hb hta inX tX tXok nX hown hK hP hD hS 0 rfl rfl 1 (by decide) (hta _ w20) (fun _ h9 => h9) rfl (by decide +kernel) rfl rfl (Nat.le_of_ble_eq_true rfl) dX_init_11 (fun H locs hP hD hS => ?_)
  have hP : va_P (dC, dI) classes [(h0, .inr (0, [.int 0, .int 1, .int 0, .null, .null, .null, .null, .null, .null, .null, .null]))] H := hP
  have hD : va_D A [(h0, .inr (0, [.int 0, .int 1, .int 0, .null, .null, .null, .null, .null, .null, .null, .null]))] := hD
  refine lv_aload_n hx hb dX_init_14 rfl (lv_at hl 0 rfl) ?_
  refine lv_iconst (v := 0) hx hb dX_init_15 (by decide) ?_
  refine va_put (D := (dC, dI)) (ci := 0) (v := .int 0) (ty := .int) (C := "GroupRows") (T := FX) (N := 11) hx hb hta inX tX tXok nX hown hK hP hD hS 0 rfl rfl 2 (by decide) (hta _ w21) (fun _ h9 => h9) rfl (by decide +kernel) rfl rfl (Nat.le_of_ble_eq_true rfl) dX_init_16 (fun H locs hP hD hS => ?_)
  have hP : va_P (dC, dI) classes [(h0, .inr (0, [.int 0, .int 1, .int 0, .null, .null, .null, .null, .null, .null, .null, .null]))] H := hP
  have hD : va_D A [(h0, .inr (0, [.int 0, .int 1, .int 0, .null, .null, .null, .null, .null, .null, .null, .null]))] := hD
  refine lv_aload_n hx hb dX_init_19 rfl (lv_at hl 0 rfl) ?_
  refine lv_bipush (v := 8) hx hb dX_init_20 (by decide) ?_
  refine va_newa (atype := .int) (ty := .int) (N' := 8) (a0 := (8, .inl (fun _ => 0))) hx hb (hta _ w53) rfl hK hP hD hS hA (fun _ => rfl) (by decide) (by decide) (by decide) (Nat.le_of_ble_eq_true rfl) (Nat.le_of_ble_eq_true rfl) dX_init_22 (fun q1 k1 H hK hP hD hS => ?_)
  have hP : va_P (dC, dI) classes [(h0, .inr (0, [.int 0, .int 1, .int 0, .null, .null, .null, .null, .null, .null, .null, .null])), (q1, .inl (k1, 8, .inl (fun _ => 0)))] H := hP
  have hD : va_D A [(h0, .inr (0, [.int 0, .int 1, .int 0, .null, .null, .null, .null, .null, .null, .null, .null])), (q1, .inl (k1, 8, .inl (fun _ => 0)))] := hD
  have hK : va_K (dC, dI) classes [(k1, .int)] s := hK
  refine W.cs (cells' := 1) (slots' := 8) rfl rfl ?_
  refine va_putF (D := (dC, dI)) (ci := 0) (v := .ref q1) (ty := (.array .int)) (C := "GroupRows") (T := FX) (N := 11) hx hb hta inX tX tXok nX hown hK hP hD hS 0 rfl rfl 3 (by decide) (hta _ w22) (fun _ h9 => h9) rfl hin rfl (by decide +kernel) rfl rfl (Nat.le_of_ble_eq_true rfl) dX_init_24 (fun H locs hP hD hS => ?_)
  have hP : va_P (dC, dI) classes [(h0, .inr (0, [.int 0, .int 1, .int 0, .ref q1, .null, .null, .null, .null, .null, .null, .null])), (q1, .inl (k1, 8, .inl (fun _ => 0)))] H := hP
  have hD : va_D A [(h0, .inr (0, [.int 0, .int 1, .int 0, .ref q1, .null, .null, .null, .null, .null, .null, .null])), (q1, .inl (k1, 8, .inl (fun _ => 0)))] := hD
  refine lv_aload_n hx hb dX_init_27 rfl (lv_at hl 0 rfl) ?_
  refine lv_bipush (v := 8) hx hb dX_init_28 (by decide) ?_
  refine va_newa (atype := .long) (ty := .long) (N' := 8) (a0 := (8, .inr (.inl (fun _ => 0)))) hx hb (hta _ w54) rfl hK hP hD hS hA (fun _ => rfl) (by decide) (by decide) (by decide) (Nat.le_of_ble_eq_true rfl) (Nat.le_of_ble_eq_true rfl) dX_init_30 (fun q2 k2 H hK hP hD hS => ?_)
  have hP : va_P (dC, dI) classes [(h0, .inr (0, [.int 0, .int 1, .int 0, .ref q1, .null, .null, .null, .null, .null, .null, .null])), (q1, .inl (k1, 8, .inl (fun _ => 0))), (q2, .inl (k2, 8, .inr (.inl (fun _ => 0))))] H := hP
  have hD : va_D A [(h0, .inr (0, [.int 0, .int 1, .int 0, .ref q1, .null, .null, .null, .null, .null, .null, .null])), (q1, .inl (k1, 8, .inl (fun _ => 0))), (q2, .inl (k2, 8, .inr (.inl (fun _ => 0))))] := hD
  have hK : va_K (dC, dI) classes [(k1, .int), (k2, .long)] s := hK
  refine W.cs (cells' := 2) (slots' := 16) rfl rfl ?_
  refine va_putF (D := (dC, dI)) (ci := 0) (v := .ref q2) (ty := (.array .long)) (C := "GroupRows") (T := FX) (N := 11) hx hb hta inX tX tXok nX hown hK hP hD hS 0 rfl rfl 4 (by decide) (hta _ w23) (fun _ h9 => h9) rfl hin rfl (by decide +kernel) rfl rfl (Nat.le_of_ble_eq_true rfl) dX_init_32 (fun H locs hP hD hS => ?_)
  have hP : va_P (dC, dI) classes [(h0, .inr (0, [.int 0, .int 1, .int 0, .ref q1, .ref q2, .null, .null, .null, .null, .null, .null])), (q1, .inl (k1, 8, .inl (fun _ => 0))), (q2, .inl (k2, 8, .inr (.inl (fun _ => 0))))] H := hP
  have hD : va_D A [(h0, .inr (0, [.int 0, .int 1, .int 0, .ref q1, .ref q2, .null, .null, .null, .null, .null, .null])), (q1, .inl (k1, 8, .inl (fun _ => 0))), (q2, .inl (k2, 8, .inr (.inl (fun _ => 0))))] := hD
  refine lv_aload_n hx hb dX_init_35 rfl (lv_at hl 0 rfl) ?_
  refine lv_sipush (v := 1000) hx hb dX_init_36 (by decide) ?_
  refine va_newa (atype := .int) (ty := .int) (N' := 1000) (a0 := (1000, .inl (fun _ => 0))) hx hb (hta _ w53) rfl hK hP hD hS hA (fun _ => rfl) (by decide) (by decide) (by decide) (Nat.le_of_ble_eq_true rfl) (Nat.le_of_ble_eq_true rfl) dX_init_39 (fun q3 k3 H hK hP hD hS => ?_)
  have hP : va_P (dC, dI) classes [(h0, .inr (0, [.int 0, .int 1, .int 0, .ref q1, .ref q2, .null, .null, .null, .null, .null, .null])), (q1, .inl (k1, 8, .inl (fun _ => 0))), (q2, .inl (k2, 8, .inr (.inl (fun _ => 0)))), (q3, .inl (k3, 1000, .inl (fun _ => 0)))] H := hP
  have hD : va_D A [(h0, .inr (0, [.int 0, .int 1, .int 0, .ref q1, .ref q2, .null, .null, .null, .null, .null, .null])), (q1, .inl (k1, 8, .inl (fun _ => 0))), (q2, .inl (k2, 8, .inr (.inl (fun _ => 0)))), (q3, .inl (k3, 1000, .inl (fun _ => 0)))] := hD
  have hK : va_K (dC, dI) classes [(k1, .int), (k2, .long), (k3, .int)] s := hK
  refine W.cs (cells' := 3) (slots' := 1016) rfl rfl ?_
  refine va_putF (D := (dC, dI)) (ci := 0) (v := .ref q3) (ty := (.array .int)) (C := "GroupRows") (T := FX) (N := 11) hx hb hta inX tX tXok nX hown hK hP hD hS 0 rfl rfl 5 (by decide) (hta _ w24) (fun _ h9 => h9) rfl hin rfl (by decide +kernel) rfl rfl (Nat.le_of_ble_eq_true rfl) dX_init_41 (fun H locs hP hD hS => ?_)
  have hP : va_P (dC, dI) classes [(h0, .inr (0, [.int 0, .int 1, .int 0, .ref q1, .ref q2, .ref q3, .null, .null, .null, .null, .null])), (q1, .inl (k1, 8, .inl (fun _ => 0))), (q2, .inl (k2, 8, .inr (.inl (fun _ => 0)))), (q3, .inl (k3, 1000, .inl (fun _ => 0)))] H := hP
  have hD : va_D A [(h0, .inr (0, [.int 0, .int 1, .int 0, .ref q1, .ref q2, .ref q3, .null, .null, .null, .null, .null])), (q1, .inl (k1, 8, .inl (fun _ => 0))), (q2, .inl (k2, 8, .inr (.inl (fun _ => 0)))), (q3, .inl (k3, 1000, .inl (fun _ => 0)))] := hD
  refine lv_aload_n hx hb dX_init_44 rfl (lv_at hl 0 rfl) ?_
  refine lv_sipush (v := 8000) hx hb dX_init_45 (by decide) ?_
  refine va_newa (atype := .int) (ty := .int) (N' := 8000) (a0 := (8000, .inl (fun _ => 0))) hx hb (hta _ w53) rfl hK hP hD hS hA (fun _ => rfl) (by decide) (by decide) (by decide) (Nat.le_of_ble_eq_true rfl) (Nat.le_of_ble_eq_true rfl) dX_init_48 (fun q4 k4 H hK hP hD hS => ?_)
  have hP : va_P (dC, dI) classes [(h0, .inr (0, [.int 0, .int 1, .int 0, .ref q1, .ref q2, .ref q3, .null, .null, .null, .null, .null])), (q1, .inl (k1, 8, .inl (fun _ => 0))), (q2, .inl (k2, 8, .inr (.inl (fun _ => 0)))), (q3, .inl (k3, 1000, .inl (fun _ => 0))), (q4, .inl (k4, 8000, .inl (fun _ => 0)))] H := hP
  have hD : va_D A [(h0, .inr (0, [.int 0, .int 1, .int 0, .ref q1, .ref q2, .ref q3, .null, .null, .null, .null, .null])), (q1, .inl (k1, 8, .inl (fun _ => 0))), (q2, .inl (k2, 8, .inr (.inl (fun _ => 0)))), (q3, .inl (k3, 1000, .inl (fun _ => 0))), (q4, .inl (k4, 8000, .inl (fun _ => 0)))] := hD
  have hK : va_K (dC, dI) classes [(k1, .int), (k2, .long), (k3, .int), (k4, .int)] s := hK
  refine W.cs (cells' := 4) (slots' := 9016) rfl rfl ?_
  refine va_putF (D := (dC, dI)) (ci := 0) (v := .ref q4) (ty := (.array .int)) (C := "GroupRows") (T := FX) (N := 11) hx hb hta inX tX tXok nX hown hK hP hD hS 0 rfl rfl 6 (by decide) (hta _ w25) (fun _ h9 => h9) rfl hin rfl (by decide +kernel) rfl rfl (Nat.le_of_ble_eq_true rfl) dX_init_50 (fun H locs hP hD hS => ?_)
  have hP : va_P (dC, dI) classes [(h0, .inr (0, [.int 0, .int 1, .int 0, .ref q1, .ref q2, .ref q3, .ref q4, .null, .null, .null, .null])), (q1, .inl (k1, 8, .inl (fun _ => 0))), (q2, .inl (k2, 8, .inr (.inl (fun _ => 0)))), (q3, .inl (k3, 1000, .inl (fun _ => 0))), (q4, .inl (k4, 8000, .inl (fun _ => 0)))] H := hP
  have hD : va_D A [(h0, .inr (0, [.int 0, .int 1, .int 0, .ref q1, .ref q2, .ref q3, .ref q4, .null, .null, .null, .null])), (q1, .inl (k1, 8, .inl (fun _ => 0))), (q2, .inl (k2, 8, .inr (.inl (fun _ => 0)))), (q3, .inl (k3, 1000, .inl (fun _ => 0))), (q4, .inl (k4, 8000, .inl (fun _ => 0)))] := hD
  refine lv_aload_n hx hb dX_init_53 rfl (lv_at hl 0 rfl) ?_
  refine lv_sipush (v := 1000) hx hb dX_init_54 (by decide) ?_
  refine va_newa (atype := .long) (ty := .long) (N' := 1000) (a0 := (1000, .inr (.inl (fun _ => 0)))) hx hb (hta _ w54) rfl hK hP hD hS hA (fun _ => rfl) (by decide) (by decide) (by decide) (Nat.le_of_ble_eq_true rfl) (Nat.le_of_ble_eq_true rfl) dX_init_57 (fun q5 k5 H hK hP hD hS => ?_)
  have hP : va_P (dC, dI) classes [(h0, .inr (0, [.int 0, .int 1, .int 0, .ref q1, .ref q2, .ref q3, .ref q4, .null, .null, .null, .null])), (q1, .inl (k1, 8, .inl (fun _ => 0))), (q2, .inl (k2, 8, .inr (.inl (fun _ => 0)))), (q3, .inl (k3, 1000, .inl (fun _ => 0))), (q4, .inl (k4, 8000, .inl (fun _ => 0))), (q5, .inl (k5, 1000, .inr (.inl (fun _ => 0))))] H := hP
  have hD : va_D A [(h0, .inr (0, [.int 0, .int 1, .int 0, .ref q1, .ref q2, .ref q3, .ref q4, .null, .null, .null, .null])), (q1, .inl (k1, 8, .inl (fun _ => 0))), (q2, .inl (k2, 8, .inr (.inl (fun _ => 0)))), (q3, .inl (k3, 1000, .inl (fun _ => 0))), (q4, .inl (k4, 8000, .inl (fun _ => 0))), (q5, .inl (k5, 1000, .inr (.inl (fun _ => 0))))] := hD
  have hK : va_K (dC, dI) classes [(k1, .int), (k2, .long), (k3, .int), (k4, .int), (k5, .long)] s := hK
  refine W.cs (cells' := 5) (slots' := 10016) rfl rfl ?_
  refine va_putF (D := (dC, dI)) (ci := 0) (v := .ref q5) (ty := (.array .long)) (C := "GroupRows") (T := FX) (N := 11) hx hb hta inX tX tXok nX hown hK hP hD hS 0 rfl rfl 7 (by decide) (hta _ w26) (fun _ h9 => h9) rfl hin rfl (by decide +kernel) rfl rfl (Nat.le_of_ble_eq_true rfl) dX_init_59 (fun H locs hP hD hS => ?_)
  have hP : va_P (dC, dI) classes [(h0, .inr (0, [.int 0, .int 1, .int 0, .ref q1, .ref q2, .ref q3, .ref q4, .ref q5, .null, .null, .null])), (q1, .inl (k1, 8, .inl (fun _ => 0))), (q2, .inl (k2, 8, .inr (.inl (fun _ => 0)))), (q3, .inl (k3, 1000, .inl (fun _ => 0))), (q4, .inl (k4, 8000, .inl (fun _ => 0))), (q5, .inl (k5, 1000, .inr (.inl (fun _ => 0))))] H := hP
  have hD : va_D A [(h0, .inr (0, [.int 0, .int 1, .int 0, .ref q1, .ref q2, .ref q3, .ref q4, .ref q5, .null, .null, .null])), (q1, .inl (k1, 8, .inl (fun _ => 0))), (q2, .inl (k2, 8, .inr (.inl (fun _ => 0)))), (q3, .inl (k3, 1000, .inl (fun _ => 0))), (q4, .inl (k4, 8000, .inl (fun _ => 0))), (q5, .inl (k5, 1000, .inr (.inl (fun _ => 0))))] := hD
  refine lv_aload_n hx hb dX_init_62 rfl (lv_at hl 0 rfl) ?_
  refine lv_sipush (v := 8000) hx hb dX_init_63 (by decide) ?_
  refine va_newa (atype := .long) (ty := .long) (N' := 8000) (a0 := (8000, .inr (.inl (fun _ => 0)))) hx hb (hta _ w54) rfl hK hP hD hS hA (fun _ => rfl) (by decide) (by decide) (by decide) (Nat.le_of_ble_eq_true rfl) (Nat.le_of_ble_eq_true rfl) dX_init_66 (fun q6 k6 H hK hP hD hS => ?_)
  have hP : va_P (dC, dI) classes [(h0, .inr (0, [.int 0, .int 1, .int 0, .ref q1, .ref q2, .ref q3, .ref q4, .ref q5, .null, .null, .null])), (q1, .inl (k1, 8, .inl (fun _ => 0))), (q2, .inl (k2, 8, .inr (.inl (fun _ => 0)))), (q3, .inl (k3, 1000, .inl (fun _ => 0))), (q4, .inl (k4, 8000, .inl (fun _ => 0))), (q5, .inl (k5, 1000, .inr (.inl (fun _ => 0)))), (q6, .inl (k6, 8000, .inr (.inl (fun _ => 0))))] H := hP
  have hD : va_D A [(h0, .inr (0, [.int 0, .int 1, .int 0, .ref q1, .ref q2, .ref q3, .ref q4, .ref q5, .null, .null, .null])), (q1, .inl (k1, 8, .inl (fun _ => 0))), (q2, .inl (k2, 8, .inr (.inl (fun _ => 0)))), (q3, .inl (k3, 1000, .inl (fun _ => 0))), (q4, .inl (k4, 8000, .inl (fun _ => 0))), (q5, .inl (k5, 1000, .inr (.inl (fun _ => 0)))), (q6, .inl (k6, 8000, .inr (.inl (fun _ => 0))))] := hD
  have hK : va_K (dC, dI) classes [(k1, .int), (k2, .long), (k3, .int), (k4, .int), (k5, .long), (k6, .long)] s := hK
  refine W.cs (cells' := 6) (slots' := 18016) rfl rfl ?_
  refine va_putF (D := (dC, dI)) (ci := 0) (v := .ref q6) (ty := (.array .long)) (C := "GroupRows") (T := FX) (N := 11) hx hb hta inX tX tXok nX hown hK hP hD hS 0 rfl rfl 8 (by decide) (hta _ w27) (fun _ h9 => h9) rfl hin rfl (by decide +kernel) rfl rfl (Nat.le_of_ble_eq_true rfl) dX_init_68 (fun H locs hP hD hS => ?_)
  have hP : va_P (dC, dI) classes [(h0, .inr (0, [.int 0, .int 1, .int 0, .ref q1, .ref q2, .ref q3, .ref q4, .ref q5, .ref q6, .null, .null])), (q1, .inl (k1, 8, .inl (fun _ => 0))), (q2, .inl (k2, 8, .inr (.inl (fun _ => 0)))), (q3, .inl (k3, 1000, .inl (fun _ => 0))), (q4, .inl (k4, 8000, .inl (fun _ => 0))), (q5, .inl (k5, 1000, .inr (.inl (fun _ => 0)))), (q6, .inl (k6, 8000, .inr (.inl (fun _ => 0))))] H := hP
  have hD : va_D A [(h0, .inr (0, [.int 0, .int 1, .int 0, .ref q1, .ref q2, .ref q3, .ref q4, .ref q5, .ref q6, .null, .null])), (q1, .inl (k1, 8, .inl (fun _ => 0))), (q2, .inl (k2, 8, .inr (.inl (fun _ => 0)))), (q3, .inl (k3, 1000, .inl (fun _ => 0))), (q4, .inl (k4, 8000, .inl (fun _ => 0))), (q5, .inl (k5, 1000, .inr (.inl (fun _ => 0)))), (q6, .inl (k6, 8000, .inr (.inl (fun _ => 0))))] := hD
  refine lv_aload_n hx hb dX_init_71 rfl (lv_at hl 0 rfl) ?_
  refine lv_sipush (v := 8000) hx hb dX_init_72 (by decide) ?_
  refine va_newa (atype := .long) (ty := .long) (N' := 8000) (a0 := (8000, .inr (.inl (fun _ => 0)))) hx hb (hta _ w54) rfl hK hP hD hS hA (fun _ => rfl) (by decide) (by decide) (by decide) (Nat.le_of_ble_eq_true rfl) (Nat.le_of_ble_eq_true rfl) dX_init_75 (fun q7 k7 H hK hP hD hS => ?_)
  have hP : va_P (dC, dI) classes [(h0, .inr (0, [.int 0, .int 1, .int 0, .ref q1, .ref q2, .ref q3, .ref q4, .ref q5, .ref q6, .null, .null])), (q1, .inl (k1, 8, .inl (fun _ => 0))), (q2, .inl (k2, 8, .inr (.inl (fun _ => 0)))), (q3, .inl (k3, 1000, .inl (fun _ => 0))), (q4, .inl (k4, 8000, .inl (fun _ => 0))), (q5, .inl (k5, 1000, .inr (.inl (fun _ => 0)))), (q6, .inl (k6, 8000, .inr (.inl (fun _ => 0)))), (q7, .inl (k7, 8000, .inr (.inl (fun _ => 0))))] H := hP
  have hD : va_D A [(h0, .inr (0, [.int 0, .int 1, .int 0, .ref q1, .ref q2, .ref q3, .ref q4, .ref q5, .ref q6, .null, .null])), (q1, .inl (k1, 8, .inl (fun _ => 0))), (q2, .inl (k2, 8, .inr (.inl (fun _ => 0)))), (q3, .inl (k3, 1000, .inl (fun _ => 0))), (q4, .inl (k4, 8000, .inl (fun _ => 0))), (q5, .inl (k5, 1000, .inr (.inl (fun _ => 0)))), (q6, .inl (k6, 8000, .inr (.inl (fun _ => 0)))), (q7, .inl (k7, 8000, .inr (.inl (fun _ => 0))))] := hD
  have hK : va_K (dC, dI) classes [(k1, .int), (k2, .long), (k3, .int), (k4, .int), (k5, .long), (k6, .long), (k7, .long)] s := hK
  refine W.cs (cells' := 7) (slots' := 26016) rfl rfl ?_
  refine va_putF (D := (dC, dI)) (ci := 0) (v := .ref q7) (ty := (.array .long)) (C := "GroupRows") (T := FX) (N := 11) hx hb hta inX tX tXok nX hown hK hP hD hS 0 rfl rfl 9 (by decide) (hta _ w28) (fun _ h9 => h9) rfl hin rfl (by decide +kernel) rfl rfl (Nat.le_of_ble_eq_true rfl) dX_init_77 (fun H locs hP hD hS => ?_)
  have hP : va_P (dC, dI) classes [(h0, .inr (0, [.int 0, .int 1, .int 0, .ref q1, .ref q2, .ref q3, .ref q4, .ref q5, .ref q6, .ref q7, .null])), (q1, .inl (k1, 8, .inl (fun _ => 0))), (q2, .inl (k2, 8, .inr (.inl (fun _ => 0)))), (q3, .inl (k3, 1000, .inl (fun _ => 0))), (q4, .inl (k4, 8000, .inl (fun _ => 0))), (q5, .inl (k5, 1000, .inr (.inl (fun _ => 0)))), (q6, .inl (k6, 8000, .inr (.inl (fun _ => 0)))), (q7, .inl (k7, 8000, .inr (.inl (fun _ => 0))))] H := hP
  have hD : va_D A [(h0, .inr (0, [.int 0, .int 1, .int 0, .ref q1, .ref q2, .ref q3, .ref q4, .ref q5, .ref q6, .ref q7, .null])), (q1, .inl (k1, 8, .inl (fun _ => 0))), (q2, .inl (k2, 8, .inr (.inl (fun _ => 0)))), (q3, .inl (k3, 1000, .inl (fun _ => 0))), (q4, .inl (k4, 8000, .inl (fun _ => 0))), (q5, .inl (k5, 1000, .inr (.inl (fun _ => 0)))), (q6, .inl (k6, 8000, .inr (.inl (fun _ => 0)))), (q7, .inl (k7, 8000, .inr (.inl (fun _ => 0))))] := hD
  refine lv_aload_n hx hb dX_init_80 rfl (lv_at hl 0 rfl) ?_
  refine lv_sipush (v := 8000) hx hb dX_init_81 (by decide) ?_
  refine va_newa (atype := .long) (ty := .long) (N' := 8000) (a0 := (8000, .inr (.inl (fun _ => 0)))) hx hb (hta _ w54) rfl hK hP hD hS hA (fun _ => rfl) (by decide) (by decide) (by decide) (Nat.le_of_ble_eq_true rfl) (Nat.le_of_ble_eq_true rfl) dX_init_84 (fun q8 k8 H hK hP hD hS => ?_)
  have hP : va_P (dC, dI) classes [(h0, .inr (0, [.int 0, .int 1, .int 0, .ref q1, .ref q2, .ref q3, .ref q4, .ref q5, .ref q6, .ref q7, .null])), (q1, .inl (k1, 8, .inl (fun _ => 0))), (q2, .inl (k2, 8, .inr (.inl (fun _ => 0)))), (q3, .inl (k3, 1000, .inl (fun _ => 0))), (q4, .inl (k4, 8000, .inl (fun _ => 0))), (q5, .inl (k5, 1000, .inr (.inl (fun _ => 0)))), (q6, .inl (k6, 8000, .inr (.inl (fun _ => 0)))), (q7, .inl (k7, 8000, .inr (.inl (fun _ => 0)))), (q8, .inl (k8, 8000, .inr (.inl (fun _ => 0))))] H := hP
  have hD : va_D A [(h0, .inr (0, [.int 0, .int 1, .int 0, .ref q1, .ref q2, .ref q3, .ref q4, .ref q5, .ref q6, .ref q7, .null])), (q1, .inl (k1, 8, .inl (fun _ => 0))), (q2, .inl (k2, 8, .inr (.inl (fun _ => 0)))), (q3, .inl (k3, 1000, .inl (fun _ => 0))), (q4, .inl (k4, 8000, .inl (fun _ => 0))), (q5, .inl (k5, 1000, .inr (.inl (fun _ => 0)))), (q6, .inl (k6, 8000, .inr (.inl (fun _ => 0)))), (q7, .inl (k7, 8000, .inr (.inl (fun _ => 0)))), (q8, .inl (k8, 8000, .inr (.inl (fun _ => 0))))] := hD
  have hK : va_K (dC, dI) classes [(k1, .int), (k2, .long), (k3, .int), (k4, .int), (k5, .long), (k6, .long), (k7, .long), (k8, .long)] s := hK
  refine W.cs (cells' := 8) (slots' := 34016) rfl rfl ?_
  refine va_putF (D := (dC, dI)) (ci := 0) (v := .ref q8) (ty := (.array .long)) (C := "GroupRows") (T := FX) (N := 11) hx hb hta inX tX tXok nX hown hK hP hD hS 0 rfl rfl 10 (by decide) (hta _ w29) (fun _ h9 => h9) rfl hin rfl (by decide +kernel) rfl rfl (Nat.le_of_ble_eq_true rfl) dX_init_86 (fun H locs hP hD hS => ?_)
  have hP : va_P (dC, dI) classes [(h0, .inr (0, [.int 0, .int 1, .int 0, .ref q1, .ref q2, .ref q3, .ref q4, .ref q5, .ref q6, .ref q7, .ref q8])), (q1, .inl (k1, 8, .inl (fun _ => 0))), (q2, .inl (k2, 8, .inr (.inl (fun _ => 0)))), (q3, .inl (k3, 1000, .inl (fun _ => 0))), (q4, .inl (k4, 8000, .inl (fun _ => 0))), (q5, .inl (k5, 1000, .inr (.inl (fun _ => 0)))), (q6, .inl (k6, 8000, .inr (.inl (fun _ => 0)))), (q7, .inl (k7, 8000, .inr (.inl (fun _ => 0)))), (q8, .inl (k8, 8000, .inr (.inl (fun _ => 0))))] H := hP
  have hD : va_D A [(h0, .inr (0, [.int 0, .int 1, .int 0, .ref q1, .ref q2, .ref q3, .ref q4, .ref q5, .ref q6, .ref q7, .ref q8])), (q1, .inl (k1, 8, .inl (fun _ => 0))), (q2, .inl (k2, 8, .inr (.inl (fun _ => 0)))), (q3, .inl (k3, 1000, .inl (fun _ => 0))), (q4, .inl (k4, 8000, .inl (fun _ => 0))), (q5, .inl (k5, 1000, .inr (.inl (fun _ => 0)))), (q6, .inl (k6, 8000, .inr (.inl (fun _ => 0)))), (q7, .inl (k7, 8000, .inr (.inl (fun _ => 0)))), (q8, .inl (k8, 8000, .inr (.inl (fun _ => 0))))] := hD
  refine lv_iconst (v := 0) hx hb dX_init_89 (by decide) ?_
  refine gi_as (y := nI 0) (nI_0.symm) ?_
  refine lv_istore_n (lv' := [(1, .int (nI 0)), (0, .ref h0)]) hx hb dX_init_90 rfl hl (by decide) rfl (fun ls hl => ?_)
  have loop : ∀ (kk j : Nat), j + kk = 1000 → ∀ (H : Heap) (locs : List Loc), va_P (dC, dI) classes [(h0, .inr (0, [.int 0, .int 1, .int 0, .ref q1, .ref q2, .ref q3, .ref q4, .ref q5, .ref q6, .ref q7, .ref q8])), (q1, .inl (k1, 8, .inl (fun _ => 0))), (q2, .inl (k2, 8, .inr (.inl (fun _ => 0)))), (q3, .inl (k3, 1000, .inl (upToI (fun m _ => nI m) 0 (fun _ => 0) j))), (q4, .inl (k4, 8000, .inl (fun _ => 0))), (q5, .inl (k5, 1000, .inr (.inl (fun _ => 0)))), (q6, .inl (k6, 8000, .inr (.inl (fun _ => 0)))), (q7, .inl (k7, 8000, .inr (.inl (fun _ => 0)))), (q8, .inl (k8, 8000, .inr (.inl (fun _ => 0))))] H → va_D A [(h0, .inr (0, [.int 0, .int 1, .int 0, .ref q1, .ref q2, .ref q3, .ref q4, .ref q5, .ref q6, .ref q7, .ref q8])), (q1, .inl (k1, 8, .inl (fun _ => 0))), (q2, .inl (k2, 8, .inr (.inl (fun _ => 0)))), (q3, .inl (k3, 1000, .inl (upToI (fun m _ => nI m) 0 (fun _ => 0) j))), (q4, .inl (k4, 8000, .inl (fun _ => 0))), (q5, .inl (k5, 1000, .inr (.inl (fun _ => 0)))), (q6, .inl (k6, 8000, .inr (.inl (fun _ => 0)))), (q7, .inl (k7, 8000, .inr (.inl (fun _ => 0)))), (q8, .inl (k8, 8000, .inr (.inl (fun _ => 0))))] → va_S A s.heap H locs → ∀ (ls : Array Slot), lv_has ls 2 [(1, .int (nI j)), (0, .ref h0)] → W p l e (headSpec (Cond.code yX_init bX_init 2 none :: wAll) { frames := 1, cells := 8, slots := 34016, locals := 32 }).room s m ([.ref h0] : List Value).toArray below meth c H locs 8 34016 (MQ below (va_Qv (fun _ : Unit => True) (fun (_ : Unit) (t9 : State) => ∃ (a : Nat → Nat) (k : Nat → ClassId), a 0 = h0 ∧ atX dC dI A a k 0 1 (fun _ => 0) (fun _ => 0) TB0 t9) A) ([.ref h0] : List Value).toArray s 8 34016 A) (F0 m 91 ls []) := by
    intro kk
    induction kk with
    | zero =>
      intro j hj H locs hP hD hS ls hl
      refine lv_iload_n hx hb dX_init_91 rfl (lv_at hl 0 rfl) ?_
      refine lv_sipush (v := 1000) hx hb dX_init_92 (by decide) ?_
      refine gi_as (y := nI 1000) (rfl) ?_
      refine lv_icmp_ge (tgt := 111) hx hb dX_init_95 (by decide) (fun h1 => ?_) (fun h1 => ?_)
      · skip
        have hj : 1000 = j := by omega
        subst hj
        obtain ⟨a, ea⟩ : ∃ a : Nat → Nat, a = fun n => match n with | 0 => h0 | 1 => q1 | 2 => q2 | 3 => q3 | 4 => q4 | 5 => q5 | 6 => q6 | 7 => q7 | _ => q8 := ⟨_, rfl⟩
        obtain ⟨k, ek⟩ : ∃ k : Nat → ClassId, k = fun n => match n with | 0 => k1 | 1 => k1 | 2 => k2 | 3 => k3 | 4 => k4 | 5 => k5 | 6 => k6 | 7 => k7 | _ => k8 := ⟨_, rfl⟩
        have hP : va_P (dC, dI) classes (wX a k (nI 0) (nI 1) (nI 0) (fun _ => 0) (fun _ => 0) (upToI (fun m _ => nI m) 0 (fun _ => 0) 1000) (fun _ => 0) (fun _ => 0) (fun _ => 0) (fun _ => 0) (fun _ => 0)) H := by rw [ea, ek]; exact hP
        have hD : va_D A (wX a k (nI 0) (nI 1) (nI 0) (fun _ => 0) (fun _ => 0) (upToI (fun m _ => nI m) 0 (fun _ => 0) 1000) (fun _ => 0) (fun _ => 0) (fun _ => 0) (fun _ => 0) (fun _ => 0)) := by rw [ea, ek]; exact hD
        have hK : va_K (dC, dI) classes (kX k) s := by rw [ek]; exact hK
        exact W.vret hx hb hr (fun t9 ht9 hW9 => ⟨⟨(), rfl, trivial, a, k, (congrFun ea 0).trans rfl, _, _, _, _, _, _, _, ⟨perm_id, rep_0 (by decide) (by decide) (by decide)⟩, by rw [ht9]; exact hP, va_K.moved hW9.alike hK, hD⟩, hS.F ht9⟩) hS.2.2 dX_init_111
      · skip
        exact absurd (nI_le (by omega) (by omega)) h1
    | succ kk ih =>
      intro j hj H locs hP hD hS ls hl
      refine lv_iload_n hx hb dX_init_91 rfl (lv_at hl 0 rfl) ?_
      refine lv_sipush (v := 1000) hx hb dX_init_92 (by decide) ?_
      refine gi_as (y := nI 1000) (rfl) ?_
      refine lv_icmp_ge (tgt := 111) hx hb dX_init_95 (by decide) (fun h1 => ?_) (fun h1 => ?_)
      · skip
        exact absurd h1 (nI_ge (a := j) (by omega) (by omega))
      · skip
        refine lv_aload_n hx hb dX_init_98 rfl (lv_at hl 1 rfl) ?_
        refine va_get (D := (dC, dI)) (ci := 0) (v := .ref q3) (C := "GroupRows") (T := FX) (N := 11) hx hb hta inX hown hK hP 0 rfl rfl 5 (by decide) (hta _ w24) (fun _ h9 => h9) rfl dX_init_99 ?_
        have e0 : j = 0 + j := by omega
        refine lv_iload_n hx hb dX_init_102 rfl (lv_at hl 0 rfl) ?_
        refine gi_as (y := nI (0 + j)) (by rw [← e0]) ?_
        refine lv_iload_n hx hb dX_init_103 rfl (lv_at hl 0 rfl) ?_
        refine gi_iast hx hb hK hP hD hS 3 2 rfl rfl (k := (0 + j)) (by omega) (by decide) dX_init_104 (fun H locs hP hD hS => ?_)
        refine lv_iinc (v := (nI (j + 1))) (lv' := [(1, .int (nI (j + 1))), (0, .ref h0)]) hx hb dX_init_105 hl (k := 0) rfl (nI_1 _) (by decide) rfl (fun ls hl => ?_)
        refine lv_goto (tgt := 91) hx hb dX_init_108 (by decide) ?_
        exact ih (j + 1) (by omega) H locs hP hD hS ls hl
  exact loop 1000 0 (by omega) H locs hP hD hS ls hl
