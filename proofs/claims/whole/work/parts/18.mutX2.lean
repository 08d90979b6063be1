set_option maxHeartbeats 4000000 in
set_option maxRecDepth 100000 in
/-- joinRow: the row at slot o joins that at slot q -/
theorem c_joinRow (l : Launch) (dC : Nat → ClassId) (dI : Nat → Nat → Nat) (a : Nat → Nat) (k : Nat → ClassId) (mn : Nat) (w n : Int32) (fk : Nat → Int32) (fa : Nat → Int64) (sl ks : Nat → Int32) (ct sm le gr : Nat → Int64) (q o : Nat) (hq : q < 1000) (ho : o < 1000) (hqo : q ≠ o) (hmn : mn ≤ 8) (sz : Nat)  : Met l yX_joinRow (Cond.code yX_joinRow bX_joinRow 6 none :: wAll) { frames := 1, cells := 0, slots := 0, locals := 64 } (va_Pc [.ref (a 0), .int (nI q), .int (nI o)] (fun U => U.heap.size = sz ∧ va_P (dC, dI) classes (wX a k w (nI mn) n fk fa sl ks ct sm le gr) U.heap ∧ va_K (dC, dI) classes (kX k) U ∧ va_D (fun _ => True) (wX a k w (nI mn) n fk fa sl ks ct sm le gr))) (va_Qv (fun _ : Unit => True) (fun (_ : Unit) (t9 : State) => va_P (dC, dI) classes (wX a k w (nI mn) n fk fa sl ks (vp_updL ct q (ct q + ct o)) (upTo (fun m x => x + sm (8 * o + m)) (8 * q) sm mn) (upTo (fun m x => if le (8 * o + m) < x then le (8 * o + m) else x) (8 * q) le mn) (upTo (fun m x => if gr (8 * o + m) < x then x else gr (8 * o + m)) (8 * q) gr mn)) t9.heap ∧ va_K (dC, dI) classes (kX k) t9 ∧ va_D (va_A (wX a k w (nI mn) n fk fa sl ks ct sm le gr) sz) (wX a k w (nI mn) n fk fa sl ks (vp_updL ct q (ct q + ct o)) (upTo (fun m x => x + sm (8 * o + m)) (8 * q) sm mn) (upTo (fun m x => if le (8 * o + m) < x then le (8 * o + m) else x) (8 * q) le mn) (upTo (fun m x => if gr (8 * o + m) < x then x else gr (8 * o + m)) (8 * q) gr mn))) (va_A (wX a k w (nI mn) n fk fa sl ks ct sm le gr) sz)) 0 0 (va_A (wX a k w (nI mn) n fk fa sl ks ct sm le gr) sz) := by
  refine Met.ofW (cc := bX_joinRow) (maxL := 6) (ret := none) (by decide) rfl ?_
  intro p e s m args below meth c s₁ B hml hv
  obtain ⟨rfl, hsz, hP, hK, hD0⟩ := hv
  have hx := B.exec
  have hb := B.bytes
  have hr := B.returns
  have hta : ∀ w ∈ wAll, w.before ([.ref (a 0), .int (nI q), .int (nI o)] : List Value).toArray s = true := fun w h => atoms_spec (ws := (Cond.code yX_joinRow bX_joinRow 6 none :: wAll)) B.pre w (List.mem_cons_of_mem _ h)
  have hown : s.vm.findClass "GroupRows" = some m.cls := findClass_of_methodNamed B.named
  have hlocks := B.notSynchronized
  subst hsz
  have hD := hD0.self (sz := s.heap.size)
  generalize hAe : va_A (wX a k w (nI mn) n fk fa sl ks ct sm le gr) s.heap.size = A at hD ⊢
  have hA : ∀ q : Nat, s.heap.size ≤ q → A q := fun q h => by rw [← hAe]; exact Or.inr h
  have hS : va_S A s.heap s.heap [] := va_S.rf
  have hP : va_P (dC, dI) classes (wX a k w (nI mn) n fk fa sl ks ct sm le gr) s.heap := hP
  have hl := lv_entry ([.ref (a 0), .int (nI q), .int (nI o)]) (n := 6) (Nat.le_of_ble_eq_true rfl)
  rw [lg_entry_eq]
  generalize (lg_sl ([.ref (a 0), .int (nI q), .int (nI o)]) ++ List.replicate (6 - (lg_sl ([.ref (a 0), .int (nI q), .int (nI o)])).length) Slot.unset).toArray = ls at hl ⊢
  have hl : lv_has ls 6 [(0, .ref (a 0)), (1, .int (nI q)), (2, .int (nI o))] := hl
  refine lv_aload_n hx hb dX_joinRow_0 rfl (lv_at hl 0 rfl) ?_
  refine va_get (D := (dC, dI)) (ci := 0) (v := .ref (a 5)) (C := "GroupRows") (T := FX) (N := 11) hx hb hta inX hown hK hP 0 rfl rfl 7 (by decide) (hta _ w26) (fun _ h9 => h9) rfl dX_joinRow_1 ?_
  refine lv_iload_n hx hb dX_joinRow_4 rfl (lv_at hl 1 rfl) ?_
  refine lv_dup2_11 hx hb dX_joinRow_5 rfl rfl ?_
  refine gi_lald hx hb hK hP 5 4 rfl rfl (k := q) (by omega) (by decide) dX_joinRow_6 ?_
  refine lv_aload_n hx hb dX_joinRow_7 rfl (lv_at hl 0 rfl) ?_
  refine va_get (D := (dC, dI)) (ci := 0) (v := .ref (a 5)) (C := "GroupRows") (T := FX) (N := 11) hx hb hta inX hown hK hP 0 rfl rfl 7 (by decide) (hta _ w26) (fun _ h9 => h9) rfl dX_joinRow_8 ?_
  refine lv_iload_n hx hb dX_joinRow_11 rfl (lv_at hl 2 rfl) ?_
  refine gi_lald hx hb hK hP 5 4 rfl rfl (k := o) (by omega) (by decide) dX_joinRow_12 ?_
  refine lv_ladd hx hb dX_joinRow_13 ?_
  refine gi_last hx hb hK hP hD hS 5 4 rfl rfl (k := q) (by omega) (by decide) dX_joinRow_14 (fun H locs hP hD hS => ?_)
  have hP : va_P (dC, dI) classes (wX a k w (nI mn) n fk fa sl ks (vp_updL ct q ((ct q) + (ct o))) sm le gr) H := hP
  have hD : va_D A (wX a k w (nI mn) n fk fa sl ks (vp_updL ct q ((ct q) + (ct o))) sm le gr) := hD
  refine lv_iload_n hx hb dX_joinRow_15 rfl (lv_at hl 1 rfl) ?_
  refine lv_bipush (v := 8) hx hb dX_joinRow_16 (by decide) ?_
  refine lv_imul hx hb dX_joinRow_18 ?_
  refine gi_as (y := nI (8 * q)) (gi_mul8 _) ?_
  refine lv_istore_n (lv' := [(3, .int (nI (8 * q))), (0, .ref (a 0)), (1, .int (nI q)), (2, .int (nI o))]) hx hb dX_joinRow_19 rfl hl (by decide) rfl (fun ls hl => ?_)
  refine lv_iload_n hx hb dX_joinRow_20 rfl (lv_at hl 3 rfl) ?_
  refine lv_bipush (v := 8) hx hb dX_joinRow_21 (by decide) ?_
  refine lv_imul hx hb dX_joinRow_23 ?_
  refine gi_as (y := nI (8 * o)) (gi_mul8 _) ?_
  refine lv_istore (lv' := [(4, .int (nI (8 * o))), (3, .int (nI (8 * q))), (0, .ref (a 0)), (1, .int (nI q)), (2, .int (nI o))]) hx hb dX_joinRow_24 hl (by decide) rfl (fun ls hl => ?_)
  refine lv_iconst (v := 0) hx hb dX_joinRow_26 (by decide) ?_
  refine gi_as (y := nI 0) (nI_0.symm) ?_
  refine lv_istore (lv' := [(5, .int (nI 0)), (4, .int (nI (8 * o))), (3, .int (nI (8 * q))), (0, .ref (a 0)), (1, .int (nI q)), (2, .int (nI o))]) hx hb dX_joinRow_27 hl (by decide) rfl (fun ls hl => ?_)
  have loop : ∀ (kk j : Nat), j + kk = mn → ∀ (H : Heap) (locs : List Loc), va_P (dC, dI) classes (wX a k w (nI mn) n fk fa sl ks (vp_updL ct q (ct q + ct o)) (upTo (fun m x => x + sm (8 * o + m)) (8 * q) sm j) (upTo (fun m x => if le (8 * o + m) < x then le (8 * o + m) else x) (8 * q) le j) (upTo (fun m x => if gr (8 * o + m) < x then x else gr (8 * o + m)) (8 * q) gr j)) H → va_D A (wX a k w (nI mn) n fk fa sl ks (vp_updL ct q (ct q + ct o)) (upTo (fun m x => x + sm (8 * o + m)) (8 * q) sm j) (upTo (fun m x => if le (8 * o + m) < x then le (8 * o + m) else x) (8 * q) le j) (upTo (fun m x => if gr (8 * o + m) < x then x else gr (8 * o + m)) (8 * q) gr j)) → va_S A s.heap H locs → ∀ (ls : Array Slot), lv_has ls 6 [(5, .int (nI j)), (4, .int (nI (8 * o))), (3, .int (nI (8 * q))), (0, .ref (a 0))] → W p l e (headSpec (Cond.code yX_joinRow bX_joinRow 6 none :: wAll) { frames := 1, cells := 0, slots := 0, locals := 64 }).room s m ([.ref (a 0), .int (nI q), .int (nI o)] : List Value).toArray below meth c H locs 0 0 (MQ below (va_Qv (fun _ : Unit => True) (fun (_ : Unit) (t9 : State) => va_P (dC, dI) classes (wX a k w (nI mn) n fk fa sl ks (vp_updL ct q (ct q + ct o)) (upTo (fun m x => x + sm (8 * o + m)) (8 * q) sm mn) (upTo (fun m x => if le (8 * o + m) < x then le (8 * o + m) else x) (8 * q) le mn) (upTo (fun m x => if gr (8 * o + m) < x then x else gr (8 * o + m)) (8 * q) gr mn)) t9.heap ∧ va_K (dC, dI) classes (kX k) t9 ∧ va_D A (wX a k w (nI mn) n fk fa sl ks (vp_updL ct q (ct q + ct o)) (upTo (fun m x => x + sm (8 * o + m)) (8 * q) sm mn) (upTo (fun m x => if le (8 * o + m) < x then le (8 * o + m) else x) (8 * q) le mn) (upTo (fun m x => if gr (8 * o + m) < x then x else gr (8 * o + m)) (8 * q) gr mn))) A) ([.ref (a 0), .int (nI q), .int (nI o)] : List Value).toArray s 0 0 A) (F0 m 29 ls []) := by
    intro kk
    induction kk with
    | zero =>
      intro j hj H locs hP hD hS ls hl
      refine lv_iload hx hb dX_joinRow_29 (lv_at hl 0 rfl) ?_
      refine lv_aload_n hx hb dX_joinRow_31 rfl (lv_at hl 3 rfl) ?_
      refine va_get (D := (dC, dI)) (ci := 0) (v := .int (nI mn)) (C := "GroupRows") (T := FX) (N := 11) hx hb hta inX hown hK hP 0 rfl rfl 1 (by decide) (hta _ w20) (fun _ h9 => h9) rfl dX_joinRow_32 ?_
      refine lv_icmp_ge (tgt := 128) hx hb dX_joinRow_35 (by decide) (fun h1 => ?_) (fun h1 => ?_)
      · skip
        have hj : mn = j := by omega
        subst hj
        have hP : va_P (dC, dI) classes (wX a k w (nI mn) n fk fa sl ks (vp_updL ct q (ct q + ct o)) (upTo (fun m x => x + sm (8 * o + m)) (8 * q) sm mn) (upTo (fun m x => if le (8 * o + m) < x then le (8 * o + m) else x) (8 * q) le mn) (upTo (fun m x => if gr (8 * o + m) < x then x else gr (8 * o + m)) (8 * q) gr mn)) H := hP
        have hD : va_D A (wX a k w (nI mn) n fk fa sl ks (vp_updL ct q (ct q + ct o)) (upTo (fun m x => x + sm (8 * o + m)) (8 * q) sm mn) (upTo (fun m x => if le (8 * o + m) < x then le (8 * o + m) else x) (8 * q) le mn) (upTo (fun m x => if gr (8 * o + m) < x then x else gr (8 * o + m)) (8 * q) gr mn)) := hD
        exact W.vret hx hb hr (fun t9 ht9 hW9 => ⟨⟨(), rfl, trivial, by rw [ht9]; exact hP, va_K.moved hW9.alike hK, hD⟩, hS.F ht9⟩) hS.2.2 dX_joinRow_128
      · skip
        exact absurd (nI_le (by omega) (by omega)) h1
    | succ kk ih =>
      intro j hj H locs hP hD hS ls hl
      refine lv_iload hx hb dX_joinRow_29 (lv_at hl 0 rfl) ?_
      refine lv_aload_n hx hb dX_joinRow_31 rfl (lv_at hl 3 rfl) ?_
      refine va_get (D := (dC, dI)) (ci := 0) (v := .int (nI mn)) (C := "GroupRows") (T := FX) (N := 11) hx hb hta inX hown hK hP 0 rfl rfl 1 (by decide) (hta _ w20) (fun _ h9 => h9) rfl dX_joinRow_32 ?_
      refine lv_icmp_ge (tgt := 128) hx hb dX_joinRow_35 (by decide) (fun h1 => ?_) (fun h1 => ?_)
      · skip
        exact absurd h1 (nI_ge (a := j) (by omega) (by omega))
      · skip
        refine lv_aload_n hx hb dX_joinRow_38 rfl (lv_at hl 3 rfl) ?_
        refine va_get (D := (dC, dI)) (ci := 0) (v := .ref (a 6)) (C := "GroupRows") (T := FX) (N := 11) hx hb hta inX hown hK hP 0 rfl rfl 8 (by decide) (hta _ w27) (fun _ h9 => h9) rfl dX_joinRow_39 ?_
        refine lv_iload_n hx hb dX_joinRow_42 rfl (lv_at hl 2 rfl) ?_
        refine lv_iload hx hb dX_joinRow_43 (lv_at hl 0 rfl) ?_
        refine lv_iadd hx hb dX_joinRow_45 ?_
        refine gi_as (y := nI ((8 * q) + j)) (nI_add _ _) ?_
        refine lv_dup2_11 hx hb dX_joinRow_46 rfl rfl ?_
        refine gi_lald hx hb hK hP 6 5 rfl rfl (k := ((8 * q) + j)) (by omega) (by decide) dX_joinRow_47 ?_
        refine lv_aload_n hx hb dX_joinRow_48 rfl (lv_at hl 3 rfl) ?_
        refine va_get (D := (dC, dI)) (ci := 0) (v := .ref (a 6)) (C := "GroupRows") (T := FX) (N := 11) hx hb hta inX hown hK hP 0 rfl rfl 8 (by decide) (hta _ w27) (fun _ h9 => h9) rfl dX_joinRow_49 ?_
        refine lv_iload hx hb dX_joinRow_52 (lv_at hl 1 rfl) ?_
        refine lv_iload hx hb dX_joinRow_54 (lv_at hl 0 rfl) ?_
        refine lv_iadd hx hb dX_joinRow_56 ?_
        refine gi_as (y := nI ((8 * o) + j)) (nI_add _ _) ?_
        refine gi_lald hx hb hK hP 6 5 rfl rfl (k := ((8 * o) + j)) (by omega) (by decide) dX_joinRow_57 ?_
        refine gi_asl (y := sm (8 * o + j)) (upTo_out j (by omega)) ?_
        refine lv_ladd hx hb dX_joinRow_58 ?_
        refine gi_last hx hb hK hP hD hS 6 5 rfl rfl (k := ((8 * q) + j)) (by omega) (by decide) dX_joinRow_59 (fun H locs hP hD hS => ?_)
        have hP : va_P (dC, dI) classes (wX a k w (nI mn) n fk fa sl ks (vp_updL ct q (ct q + ct o)) (vp_updL (upTo (fun m x => x + sm (8 * o + m)) (8 * q) sm j) ((8 * q) + j) (((upTo (fun m x => x + sm (8 * o + m)) (8 * q) sm j) ((8 * q) + j)) + (sm (8 * o + j)))) (upTo (fun m x => if le (8 * o + m) < x then le (8 * o + m) else x) (8 * q) le j) (upTo (fun m x => if gr (8 * o + m) < x then x else gr (8 * o + m)) (8 * q) gr j)) H := hP
        have hD : va_D A (wX a k w (nI mn) n fk fa sl ks (vp_updL ct q (ct q + ct o)) (vp_updL (upTo (fun m x => x + sm (8 * o + m)) (8 * q) sm j) ((8 * q) + j) (((upTo (fun m x => x + sm (8 * o + m)) (8 * q) sm j) ((8 * q) + j)) + (sm (8 * o + j)))) (upTo (fun m x => if le (8 * o + m) < x then le (8 * o + m) else x) (8 * q) le j) (upTo (fun m x => if gr (8 * o + m) < x then x else gr (8 * o + m)) (8 * q) gr j)) := hD
        refine lv_aload_n hx hb dX_joinRow_60 rfl (lv_at hl 3 rfl) ?_
        refine va_get (D := (dC, dI)) (ci := 0) (v := .ref (a 7)) (C := "GroupRows") (T := FX) (N := 11) hx hb hta inX hown hK hP 0 rfl rfl 9 (by decide) (hta _ w28) (fun _ h9 => h9) rfl dX_joinRow_61 ?_
        refine lv_iload_n hx hb dX_joinRow_64 rfl (lv_at hl 2 rfl) ?_
        refine lv_iload hx hb dX_joinRow_65 (lv_at hl 0 rfl) ?_
        refine lv_iadd hx hb dX_joinRow_67 ?_
        refine gi_as (y := nI ((8 * q) + j)) (nI_add _ _) ?_
        refine lv_aload_n hx hb dX_joinRow_68 rfl (lv_at hl 3 rfl) ?_
        refine va_get (D := (dC, dI)) (ci := 0) (v := .ref (a 7)) (C := "GroupRows") (T := FX) (N := 11) hx hb hta inX hown hK hP 0 rfl rfl 9 (by decide) (hta _ w28) (fun _ h9 => h9) rfl dX_joinRow_69 ?_
        refine lv_iload_n hx hb dX_joinRow_72 rfl (lv_at hl 2 rfl) ?_
        refine lv_iload hx hb dX_joinRow_73 (lv_at hl 0 rfl) ?_
        refine lv_iadd hx hb dX_joinRow_75 ?_
        refine gi_as (y := nI ((8 * q) + j)) (nI_add _ _) ?_
        refine gi_lald hx hb hK hP 7 6 rfl rfl (k := ((8 * q) + j)) (by omega) (by decide) dX_joinRow_76 ?_
        refine lv_aload_n hx hb dX_joinRow_77 rfl (lv_at hl 3 rfl) ?_
        refine va_get (D := (dC, dI)) (ci := 0) (v := .ref (a 7)) (C := "GroupRows") (T := FX) (N := 11) hx hb hta inX hown hK hP 0 rfl rfl 9 (by decide) (hta _ w28) (fun _ h9 => h9) rfl dX_joinRow_78 ?_
        refine lv_iload hx hb dX_joinRow_81 (lv_at hl 1 rfl) ?_
        refine lv_iload hx hb dX_joinRow_83 (lv_at hl 0 rfl) ?_
        refine lv_iadd hx hb dX_joinRow_85 ?_
        refine gi_as (y := nI ((8 * o) + j)) (nI_add _ _) ?_
        refine gi_lald hx hb hK hP 7 6 rfl rfl (k := ((8 * o) + j)) (by omega) (by decide) dX_joinRow_86 ?_
        refine gi_asl (y := le (8 * o + j)) (upTo_out j (by omega)) ?_
        refine va_mmin_long hx hb (hml.trans hl.1.symm) hown (hta _ w211) (hta _ w212) (hta _ w10) (hta _ w213) (Nat.le_of_ble_eq_true rfl) (Nat.le_of_ble_eq_true rfl) (Nat.le_of_ble_eq_true rfl) (Nat.le_of_ble_eq_true rfl) dX_joinRow_87 ?_
        refine gi_last hx hb hK hP hD hS 7 6 rfl rfl (k := ((8 * q) + j)) (by omega) (by decide) dX_joinRow_90 (fun H locs hP hD hS => ?_)
        have hP : va_P (dC, dI) classes (wX a k w (nI mn) n fk fa sl ks (vp_updL ct q (ct q + ct o)) (vp_updL (upTo (fun m x => x + sm (8 * o + m)) (8 * q) sm j) ((8 * q) + j) (((upTo (fun m x => x + sm (8 * o + m)) (8 * q) sm j) ((8 * q) + j)) + (sm (8 * o + j)))) (vp_updL (upTo (fun m x => if le (8 * o + m) < x then le (8 * o + m) else x) (8 * q) le j) ((8 * q) + j) (if (le (8 * o + j)) < ((upTo (fun m x => if le (8 * o + m) < x then le (8 * o + m) else x) (8 * q) le j) ((8 * q) + j)) then (le (8 * o + j)) else ((upTo (fun m x => if le (8 * o + m) < x then le (8 * o + m) else x) (8 * q) le j) ((8 * q) + j)))) (upTo (fun m x => if gr (8 * o + m) < x then x else gr (8 * o + m)) (8 * q) gr j)) H := hP
        have hD : va_D A (wX a k w (nI mn) n fk fa sl ks (vp_updL ct q (ct q + ct o)) (vp_updL (upTo (fun m x => x + sm (8 * o + m)) (8 * q) sm j) ((8 * q) + j) (((upTo (fun m x => x + sm (8 * o + m)) (8 * q) sm j) ((8 * q) + j)) + (sm (8 * o + j)))) (vp_updL (upTo (fun m x => if le (8 * o + m) < x then le (8 * o + m) else x) (8 * q) le j) ((8 * q) + j) (if (le (8 * o + j)) < ((upTo (fun m x => if le (8 * o + m) < x then le (8 * o + m) else x) (8 * q) le j) ((8 * q) + j)) then (le (8 * o + j)) else ((upTo (fun m x => if le (8 * o + m) < x then le (8 * o + m) else x) (8 * q) le j) ((8 * q) + j)))) (upTo (fun m x => if gr (8 * o + m) < x then x else gr (8 * o + m)) (8 * q) gr j)) := hD
        refine lv_aload_n hx hb dX_joinRow_91 rfl (lv_at hl 3 rfl) ?_
        refine va_get (D := (dC, dI)) (ci := 0) (v := .ref (a 8)) (C := "GroupRows") (T := FX) (N := 11) hx hb hta inX hown hK hP 0 rfl rfl 10 (by decide) (hta _ w29) (fun _ h9 => h9) rfl dX_joinRow_92 ?_
        refine lv_iload_n hx hb dX_joinRow_95 rfl (lv_at hl 2 rfl) ?_
        refine lv_iload hx hb dX_joinRow_96 (lv_at hl 0 rfl) ?_
        refine lv_iadd hx hb dX_joinRow_98 ?_
        refine gi_as (y := nI ((8 * q) + j)) (nI_add _ _) ?_
        refine lv_aload_n hx hb dX_joinRow_99 rfl (lv_at hl 3 rfl) ?_
        refine va_get (D := (dC, dI)) (ci := 0) (v := .ref (a 8)) (C := "GroupRows") (T := FX) (N := 11) hx hb hta inX hown hK hP 0 rfl rfl 10 (by decide) (hta _ w29) (fun _ h9 => h9) rfl dX_joinRow_100 ?_
        refine lv_iload_n hx hb dX_joinRow_103 rfl (lv_at hl 2 rfl) ?_
        refine lv_iload hx hb dX_joinRow_104 (lv_at hl 0 rfl) ?_
        refine lv_iadd hx hb dX_joinRow_106 ?_
        refine gi_as (y := nI ((8 * q) + j)) (nI_add _ _) ?_
        refine gi_lald hx hb hK hP 8 7 rfl rfl (k := ((8 * q) + j)) (by omega) (by decide) dX_joinRow_107 ?_
        refine lv_aload_n hx hb dX_joinRow_108 rfl (lv_at hl 3 rfl) ?_
        refine va_get (D := (dC, dI)) (ci := 0) (v := .ref (a 8)) (C := "GroupRows") (T := FX) (N := 11) hx hb hta inX hown hK hP 0 rfl rfl 10 (by decide) (hta _ w29) (fun _ h9 => h9) rfl dX_joinRow_109 ?_
        refine lv_iload hx hb dX_joinRow_112 (lv_at hl 1 rfl) ?_
        refine lv_iload hx hb dX_joinRow_114 (lv_at hl 0 rfl) ?_
        refine lv_iadd hx hb dX_joinRow_116 ?_
        refine gi_as (y := nI ((8 * o) + j)) (nI_add _ _) ?_
        refine gi_lald hx hb hK hP 8 7 rfl rfl (k := ((8 * o) + j)) (by omega) (by decide) dX_joinRow_117 ?_
        refine gi_asl (y := gr (8 * o + j)) (upTo_out j (by omega)) ?_
        refine va_mmax_long hx hb (hml.trans hl.1.symm) hown (hta _ w214) (hta _ w215) (hta _ w10) (hta _ w216) (Nat.le_of_ble_eq_true rfl) (Nat.le_of_ble_eq_true rfl) (Nat.le_of_ble_eq_true rfl) (Nat.le_of_ble_eq_true rfl) dX_joinRow_118 ?_
        refine gi_last hx hb hK hP hD hS 8 7 rfl rfl (k := ((8 * q) + j)) (by omega) (by decide) dX_joinRow_121 (fun H locs hP hD hS => ?_)
        have hP : va_P (dC, dI) classes (wX a k w (nI mn) n fk fa sl ks (vp_updL ct q (ct q + ct o)) (vp_updL (upTo (fun m x => x + sm (8 * o + m)) (8 * q) sm j) ((8 * q) + j) (((upTo (fun m x => x + sm (8 * o + m)) (8 * q) sm j) ((8 * q) + j)) + (sm (8 * o + j)))) (vp_updL (upTo (fun m x => if le (8 * o + m) < x then le (8 * o + m) else x) (8 * q) le j) ((8 * q) + j) (if (le (8 * o + j)) < ((upTo (fun m x => if le (8 * o + m) < x then le (8 * o + m) else x) (8 * q) le j) ((8 * q) + j)) then (le (8 * o + j)) else ((upTo (fun m x => if le (8 * o + m) < x then le (8 * o + m) else x) (8 * q) le j) ((8 * q) + j)))) (vp_updL (upTo (fun m x => if gr (8 * o + m) < x then x else gr (8 * o + m)) (8 * q) gr j) ((8 * q) + j) (if (gr (8 * o + j)) < ((upTo (fun m x => if gr (8 * o + m) < x then x else gr (8 * o + m)) (8 * q) gr j) ((8 * q) + j)) then ((upTo (fun m x => if gr (8 * o + m) < x then x else gr (8 * o + m)) (8 * q) gr j) ((8 * q) + j)) else (gr (8 * o + j))))) H := hP
        have hD : va_D A (wX a k w (nI mn) n fk fa sl ks (vp_updL ct q (ct q + ct o)) (vp_updL (upTo (fun m x => x + sm (8 * o + m)) (8 * q) sm j) ((8 * q) + j) (((upTo (fun m x => x + sm (8 * o + m)) (8 * q) sm j) ((8 * q) + j)) + (sm (8 * o + j)))) (vp_updL (upTo (fun m x => if le (8 * o + m) < x then le (8 * o + m) else x) (8 * q) le j) ((8 * q) + j) (if (le (8 * o + j)) < ((upTo (fun m x => if le (8 * o + m) < x then le (8 * o + m) else x) (8 * q) le j) ((8 * q) + j)) then (le (8 * o + j)) else ((upTo (fun m x => if le (8 * o + m) < x then le (8 * o + m) else x) (8 * q) le j) ((8 * q) + j)))) (vp_updL (upTo (fun m x => if gr (8 * o + m) < x then x else gr (8 * o + m)) (8 * q) gr j) ((8 * q) + j) (if (gr (8 * o + j)) < ((upTo (fun m x => if gr (8 * o + m) < x then x else gr (8 * o + m)) (8 * q) gr j) ((8 * q) + j)) then ((upTo (fun m x => if gr (8 * o + m) < x then x else gr (8 * o + m)) (8 * q) gr j) ((8 * q) + j)) else (gr (8 * o + j))))) := hD
        refine lv_iinc (v := (nI (j + 1))) (lv' := [(5, .int (nI (j + 1))), (4, .int (nI (8 * o))), (3, .int (nI (8 * q))), (0, .ref (a 0))]) hx hb dX_joinRow_122 hl (k := 0) rfl (nI_1 _) (by decide) rfl (fun ls hl => ?_)
        refine lv_goto (tgt := 29) hx hb dX_joinRow_125 (by decide) ?_
        have hl := lv_sub hl [0, 1, 2, 3] rfl
        have hl : lv_has ls 6 [(5, .int (nI (j + 1))), (4, .int (nI (8 * o))), (3, .int (nI (8 * q))), (0, .ref (a 0))] := hl
        exact ih (j + 1) (by omega) H locs hP hD hS ls hl
  have hl := lv_sub hl [0, 1, 2, 3] rfl
  have hl : lv_has ls 6 [(5, .int (nI 0)), (4, .int (nI (8 * o))), (3, .int (nI (8 * q))), (0, .ref (a 0))] := hl
  exact loop mn 0 (by omega) H locs hP hD hS ls hl
set_option maxHeartbeats 4000000 in
set_option maxRecDepth 100000 in
/-- openRow: a row at a place, with the amounts of its first fact as least and greatest, counting none yet -/
theorem c_openRow (l : Launch) (dC : Nat → ClassId) (dI : Nat → Nat → Nat) (a : Nat → Nat) (k : Nat → ClassId) (wn mn nn : Nat) (fk : Nat → Int32) (fa : Nat → Int64) (sl ks : Nat → Int32) (ct sm le gr : Nat → Int64) (pl q : Nat) (hwn : wn ≤ 8) (hmn : mn ≤ 8) (hpl : pl ≤ nn) (hnn : nn < 1000) (hq : q < 1000) (hs : sl nn = nI q) (sz : Nat)  : Met l yX_openRow (Cond.code yX_openRow bX_openRow 5 none :: wAll) { frames := 2, cells := 0, slots := 0, locals := 96 } (va_Pc [.ref (a 0), .int (nI pl)] (fun U => U.heap.size = sz ∧ va_P (dC, dI) classes (wX a k (nI wn) (nI mn) (nI nn) fk fa sl ks ct sm le gr) U.heap ∧ va_K (dC, dI) classes (kX k) U ∧ va_D (fun _ => True) (wX a k (nI wn) (nI mn) (nI nn) fk fa sl ks ct sm le gr))) (va_Qv (fun _ : Unit => True) (fun (_ : Unit) (t9 : State) => va_P (dC, dI) classes (wX a k (nI wn) (nI mn) (nI (nn + 1)) fk fa (insL sl pl nn (nI q)) (va_cpy fk ks 0 (8 * q) wn) (vp_updL ct q 0) (upTo (fun _ _ => 0) (8 * q) sm mn) (upTo (fun m _ => fa m) (8 * q) le mn) (upTo (fun m _ => fa m) (8 * q) gr mn)) t9.heap ∧ va_K (dC, dI) classes (kX k) t9 ∧ va_D (va_A (wX a k (nI wn) (nI mn) (nI nn) fk fa sl ks ct sm le gr) sz) (wX a k (nI wn) (nI mn) (nI (nn + 1)) fk fa (insL sl pl nn (nI q)) (va_cpy fk ks 0 (8 * q) wn) (vp_updL ct q 0) (upTo (fun _ _ => 0) (8 * q) sm mn) (upTo (fun m _ => fa m) (8 * q) le mn) (upTo (fun m _ => fa m) (8 * q) gr mn))) (va_A (wX a k (nI wn) (nI mn) (nI nn) fk fa sl ks ct sm le gr) sz)) 0 0 (va_A (wX a k (nI wn) (nI mn) (nI nn) fk fa sl ks ct sm le gr) sz) := by
  refine Met.ofW (cc := bX_openRow) (maxL := 5) (ret := none) (by decide) rfl ?_
  intro p e s m args below meth c s₁ B hml hv
  obtain ⟨rfl, hsz, hP, hK, hD0⟩ := hv
  have hx := B.exec
  have hb := B.bytes
  have hr := B.returns
  have hta : ∀ w ∈ wAll, w.before ([.ref (a 0), .int (nI pl)] : List Value).toArray s = true := fun w h => atoms_spec (ws := (Cond.code yX_openRow bX_openRow 5 none :: wAll)) B.pre w (List.mem_cons_of_mem _ h)
  have hown : s.vm.findClass "GroupRows" = some m.cls := findClass_of_methodNamed B.named
  have hlocks := B.notSynchronized
  subst hsz
  have hD := hD0.self (sz := s.heap.size)
  generalize hAe : va_A (wX a k (nI wn) (nI mn) (nI nn) fk fa sl ks ct sm le gr) s.heap.size = A at hD ⊢
  have hA : ∀ q : Nat, s.heap.size ≤ q → A q := fun q h => by rw [← hAe]; exact Or.inr h
  have hS : va_S A s.heap s.heap [] := va_S.rf
  have hP : va_P (dC, dI) classes (wX a k (nI wn) (nI mn) (nI nn) fk fa sl ks ct sm le gr) s.heap := hP
  have hl := lv_entry ([.ref (a 0), .int (nI pl)]) (n := 5) (Nat.le_of_ble_eq_true rfl)
  rw [lg_entry_eq]
  generalize (lg_sl ([.ref (a 0), .int (nI pl)]) ++ List.replicate (5 - (lg_sl ([.ref (a 0), .int (nI pl)])).length) Slot.unset).toArray = ls at hl ⊢
  have hl : lv_has ls 5 [(0, .ref (a 0)), (1, .int (nI pl))] := hl
  refine lv_aload_n hx hb dX_openRow_0 rfl (lv_at hl 0 rfl) ?_
  refine va_get (D := (dC, dI)) (ci := 0) (v := .ref (a 3)) (C := "GroupRows") (T := FX) (N := 11) hx hb hta inX hown hK hP 0 rfl rfl 5 (by decide) (hta _ w24) (fun _ h9 => h9) rfl dX_openRow_1 ?_
  refine lv_aload_n hx hb dX_openRow_4 rfl (lv_at hl 0 rfl) ?_
  refine va_get (D := (dC, dI)) (ci := 0) (v := .int (nI nn)) (C := "GroupRows") (T := FX) (N := 11) hx hb hta inX hown hK hP 0 rfl rfl 2 (by decide) (hta _ w21) (fun _ h9 => h9) rfl dX_openRow_5 ?_
  refine gi_iald hx hb hK hP 3 2 rfl rfl (k := nn) (by omega) (by decide) dX_openRow_8 ?_
  refine gi_as (y := nI q) (hs) ?_
  refine lv_istore_n (lv' := [(2, .int (nI q)), (0, .ref (a 0)), (1, .int (nI pl))]) hx hb dX_openRow_9 rfl hl (by decide) rfl (fun ls hl => ?_)
  refine lv_aload_n hx hb dX_openRow_10 rfl (lv_at hl 1 rfl) ?_
  refine lv_iload_n hx hb dX_openRow_11 rfl (lv_at hl 0 rfl) ?_
  refine lv_iload_n hx hb dX_openRow_12 rfl (lv_at hl 2 rfl) ?_
  refine lv_aload_n hx hb dX_openRow_13 rfl (lv_at hl 1 rfl) ?_
  refine va_get (D := (dC, dI)) (ci := 0) (v := .int (nI nn)) (C := "GroupRows") (T := FX) (N := 11) hx hb hta inX hown hK hP 0 rfl rfl 2 (by decide) (hta _ w21) (fun _ h9 => h9) rfl dX_openRow_14 ?_
  have hPc := hP
  have hDc := hD
  have hKc := hK
  have hFc := va_free (wc := (wX a k (nI wn) (nI mn) (nI nn) fk fa sl ks ct sm le gr)) hD hS hA [0, 1, 2, 3, 4, 5, 6, 7, 8] rfl
  refine va_callv (va_runV (As := [.int (nI q), .int (nI pl), .int (nI nn)]) (rest := []) ⟨hx, hb, hml, hown, hta⟩ (c_insertSlot l dC dI a k (nI wn) (nI mn) (nI nn) fk fa sl ks ct sm le gr (nI q) pl nn hpl hnn s.heap.size) (cwV 3 hta (gV w200 w202 sX_insertSlot w1 w203) rfl rfl rfl (by decide +kernel) ⟨Nat.le_of_ble_eq_true rfl, Nat.le_of_ble_eq_true rfl⟩) ⟨gb_W, va_recv hKc hPc (ci := 0) (q0 := 0) rfl rfl, fun U hU hW => ⟨rfl, by rw [hU], by rw [hU]; exact hPc, va_K.moved hW.alike hKc, hDc.weaken (fun _ _ _ _ => trivial)⟩⟩ rfl rfl hl.1 rfl (lv_room (Nat.le_of_ble_eq_true rfl)) dX_openRow_17 ⟨Nat.le_of_ble_eq_true rfl, Nat.le_of_ble_eq_true rfl⟩) hS (fun q _ h => hFc q h) hFc (fun u t H1 locs ht hvm hw hB hz1 hk1 hS => ?_)
  obtain ⟨hP1, hK1, hD1⟩ := hB
  rw [ht] at hP1
  obtain ⟨hP, hD⟩ := va_join (wr := []) (w1 := (wX a k (nI wn) (nI mn) (nI nn) fk fa (insL sl pl nn (nI q)) ks ct sm le gr)) hP hD [0, 1, 2, 3, 4, 5, 6, 7, 8] [] rfl rfl (by decide) (by decide) hk1 hFc hP1 hD1
  generalize H1 = H at hP hS ⊢
  have hP : va_P (dC, dI) classes (wX a k (nI wn) (nI mn) (nI nn) fk fa (insL sl pl nn (nI q)) ks ct sm le gr) H := hP
  have hD : va_D A (wX a k (nI wn) (nI mn) (nI nn) fk fa (insL sl pl nn (nI q)) ks ct sm le gr) := hD
  refine lv_aload_n hx hb dX_openRow_20 rfl (lv_at hl 1 rfl) ?_
  refine lv_dup hx hb dX_openRow_21 rfl ?_
  refine va_get (D := (dC, dI)) (ci := 0) (v := .int (nI nn)) (C := "GroupRows") (T := FX) (N := 11) hx hb hta inX hown hK hP 0 rfl rfl 2 (by decide) (hta _ w21) (fun _ h9 => h9) rfl dX_openRow_22 ?_
  refine lv_iconst (v := 1) hx hb dX_openRow_25 (by decide) ?_
  refine lv_iadd hx hb dX_openRow_26 ?_
  refine gi_as (y := nI (nn + 1)) (nI_1 _) ?_
  refine va_put (D := (dC, dI)) (ci := 0) (v := .int (nI (nn + 1))) (ty := .int) (C := "GroupRows") (T := FX) (N := 11) hx hb hta inX tX tXok nX hown hK hP hD hS 0 rfl rfl 2 (by decide) (hta _ w21) (fun _ h9 => h9) rfl (by decide +kernel) rfl rfl (Nat.le_of_ble_eq_true rfl) dX_openRow_27 (fun H locs hP hD hS => ?_)
  have hP : va_P (dC, dI) classes (wX a k (nI wn) (nI mn) (nI (nn + 1)) fk fa (insL sl pl nn (nI q)) ks ct sm le gr) H := hP
  have hD : va_D A (wX a k (nI wn) (nI mn) (nI (nn + 1)) fk fa (insL sl pl nn (nI q)) ks ct sm le gr) := hD
  refine lv_aload_n hx hb dX_openRow_30 rfl (lv_at hl 1 rfl) ?_
  refine va_get (D := (dC, dI)) (ci := 0) (v := .ref (a 1)) (C := "GroupRows") (T := FX) (N := 11) hx hb hta inX hown hK hP 0 rfl rfl 3 (by decide) (hta _ w22) (fun _ h9 => h9) rfl dX_openRow_31 ?_
  refine lv_iconst (v := 0) hx hb dX_openRow_34 (by decide) ?_
  refine gi_as (y := nI 0) (nI_0.symm) ?_
  refine lv_aload_n hx hb dX_openRow_35 rfl (lv_at hl 1 rfl) ?_
  refine va_get (D := (dC, dI)) (ci := 0) (v := .ref (a 4)) (C := "GroupRows") (T := FX) (N := 11) hx hb hta inX hown hK hP 0 rfl rfl 6 (by decide) (hta _ w25) (fun _ h9 => h9) rfl dX_openRow_36 ?_
  refine lv_iload_n hx hb dX_openRow_39 rfl (lv_at hl 0 rfl) ?_
  refine lv_bipush (v := 8) hx hb dX_openRow_40 (by decide) ?_
  refine lv_imul hx hb dX_openRow_42 ?_
  refine gi_as (y := nI (8 * q)) (gi_mul8 _) ?_
  refine lv_aload_n hx hb dX_openRow_43 rfl (lv_at hl 1 rfl) ?_
  refine va_get (D := (dC, dI)) (ci := 0) (v := .int (nI wn)) (C := "GroupRows") (T := FX) (N := 11) hx hb hta inX hown hK hP 0 rfl rfl 0 (by decide) (hta _ w19) (fun _ h9 => h9) rfl dX_openRow_44 ?_
  refine gi_copyi (x := 0) (y := (8 * q)) (z := wn) hx hb (hml.trans hl.1.symm) hown (hta _ w204) (hta _ w206) (hta _ w205) (hta _ w9) hK hP hD hS 1 4 0 3 rfl rfl rfl rfl (by omega) (by omega) (by decide) (by decide) (by decide) (by decide +kernel) dX_openRow_47 (fun H locs hP hD hS => ?_)
  have hP : va_P (dC, dI) classes (wX a k (nI wn) (nI mn) (nI (nn + 1)) fk fa (insL sl pl nn (nI q)) (va_cpy fk ks 0 (8 * q) wn) ct sm le gr) H := hP
  have hD : va_D A (wX a k (nI wn) (nI mn) (nI (nn + 1)) fk fa (insL sl pl nn (nI q)) (va_cpy fk ks 0 (8 * q) wn) ct sm le gr) := hD
  refine lv_aload_n hx hb dX_openRow_50 rfl (lv_at hl 1 rfl) ?_
  refine va_get (D := (dC, dI)) (ci := 0) (v := .ref (a 5)) (C := "GroupRows") (T := FX) (N := 11) hx hb hta inX hown hK hP 0 rfl rfl 7 (by decide) (hta _ w26) (fun _ h9 => h9) rfl dX_openRow_51 ?_
  refine lv_iload_n hx hb dX_openRow_54 rfl (lv_at hl 0 rfl) ?_
  refine lv_lconst (v := 0) hx hb dX_openRow_55 (by decide) ?_
  refine gi_last hx hb hK hP hD hS 5 4 rfl rfl (k := q) (by omega) (by decide) dX_openRow_56 (fun H locs hP hD hS => ?_)
  have hP : va_P (dC, dI) classes (wX a k (nI wn) (nI mn) (nI (nn + 1)) fk fa (insL sl pl nn (nI q)) (va_cpy fk ks 0 (8 * q) wn) (vp_updL ct q 0) sm le gr) H := hP
  have hD : va_D A (wX a k (nI wn) (nI mn) (nI (nn + 1)) fk fa (insL sl pl nn (nI q)) (va_cpy fk ks 0 (8 * q) wn) (vp_updL ct q 0) sm le gr) := hD
  refine lv_iload_n hx hb dX_openRow_57 rfl (lv_at hl 0 rfl) ?_
  refine lv_bipush (v := 8) hx hb dX_openRow_58 (by decide) ?_
  refine lv_imul hx hb dX_openRow_60 ?_
  refine gi_as (y := nI (8 * q)) (gi_mul8 _) ?_
  refine lv_istore_n (lv' := [(3, .int (nI (8 * q))), (2, .int (nI q)), (0, .ref (a 0)), (1, .int (nI pl))]) hx hb dX_openRow_61 rfl hl (by decide) rfl (fun ls hl => ?_)
  refine lv_iconst (v := 0) hx hb dX_openRow_62 (by decide) ?_
  refine gi_as (y := nI 0) (nI_0.symm) ?_
  refine lv_istore (lv' := [(4, .int (nI 0)), (3, .int (nI (8 * q))), (2, .int (nI q)), (0, .ref (a 0)), (1, .int (nI pl))]) hx hb dX_openRow_63 hl (by decide) rfl (fun ls hl => ?_)
  have loop : ∀ (kk j : Nat), j + kk = mn → ∀ (H : Heap) (locs : List Loc), va_P (dC, dI) classes (wX a k (nI wn) (nI mn) (nI (nn + 1)) fk fa (insL sl pl nn (nI q)) (va_cpy fk ks 0 (8 * q) wn) (vp_updL ct q 0) (upTo (fun _ _ => 0) (8 * q) sm j) (upTo (fun m _ => fa m) (8 * q) le j) (upTo (fun m _ => fa m) (8 * q) gr j)) H → va_D A (wX a k (nI wn) (nI mn) (nI (nn + 1)) fk fa (insL sl pl nn (nI q)) (va_cpy fk ks 0 (8 * q) wn) (vp_updL ct q 0) (upTo (fun _ _ => 0) (8 * q) sm j) (upTo (fun m _ => fa m) (8 * q) le j) (upTo (fun m _ => fa m) (8 * q) gr j)) → va_S A s.heap H locs → ∀ (ls : Array Slot), lv_has ls 5 [(4, .int (nI j)), (3, .int (nI (8 * q))), (0, .ref (a 0))] → W p l e (headSpec (Cond.code yX_openRow bX_openRow 5 none :: wAll) { frames := 2, cells := 0, slots := 0, locals := 96 }).room s m ([.ref (a 0), .int (nI pl)] : List Value).toArray below meth c H locs 0 0 (MQ below (va_Qv (fun _ : Unit => True) (fun (_ : Unit) (t9 : State) => va_P (dC, dI) classes (wX a k (nI wn) (nI mn) (nI (nn + 1)) fk fa (insL sl pl nn (nI q)) (va_cpy fk ks 0 (8 * q) wn) (vp_updL ct q 0) (upTo (fun _ _ => 0) (8 * q) sm mn) (upTo (fun m _ => fa m) (8 * q) le mn) (upTo (fun m _ => fa m) (8 * q) gr mn)) t9.heap ∧ va_K (dC, dI) classes (kX k) t9 ∧ va_D A (wX a k (nI wn) (nI mn) (nI (nn + 1)) fk fa (insL sl pl nn (nI q)) (va_cpy fk ks 0 (8 * q) wn) (vp_updL ct q 0) (upTo (fun _ _ => 0) (8 * q) sm mn) (upTo (fun m _ => fa m) (8 * q) le mn) (upTo (fun m _ => fa m) (8 * q) gr mn))) A) ([.ref (a 0), .int (nI pl)] : List Value).toArray s 0 0 A) (F0 m 65 ls []) := by
    intro kk
    induction kk with
    | zero =>
      intro j hj H locs hP hD hS ls hl
      refine lv_iload hx hb dX_openRow_65 (lv_at hl 0 rfl) ?_
      refine lv_aload_n hx hb dX_openRow_67 rfl (lv_at hl 2 rfl) ?_
      refine va_get (D := (dC, dI)) (ci := 0) (v := .int (nI mn)) (C := "GroupRows") (T := FX) (N := 11) hx hb hta inX hown hK hP 0 rfl rfl 1 (by decide) (hta _ w20) (fun _ h9 => h9) rfl dX_openRow_68 ?_
      refine lv_icmp_ge (tgt := 122) hx hb dX_openRow_71 (by decide) (fun h1 => ?_) (fun h1 => ?_)
      · skip
        have hj : mn = j := by omega
        subst hj
        have hP : va_P (dC, dI) classes (wX a k (nI wn) (nI mn) (nI (nn + 1)) fk fa (insL sl pl nn (nI q)) (va_cpy fk ks 0 (8 * q) wn) (vp_updL ct q 0) (upTo (fun _ _ => 0) (8 * q) sm mn) (upTo (fun m _ => fa m) (8 * q) le mn) (upTo (fun m _ => fa m) (8 * q) gr mn)) H := hP
        have hD : va_D A (wX a k (nI wn) (nI mn) (nI (nn + 1)) fk fa (insL sl pl nn (nI q)) (va_cpy fk ks 0 (8 * q) wn) (vp_updL ct q 0) (upTo (fun _ _ => 0) (8 * q) sm mn) (upTo (fun m _ => fa m) (8 * q) le mn) (upTo (fun m _ => fa m) (8 * q) gr mn)) := hD
        exact W.vret hx hb hr (fun t9 ht9 hW9 => ⟨⟨(), rfl, trivial, by rw [ht9]; exact hP, va_K.moved hW9.alike hK, hD⟩, hS.F ht9⟩) hS.2.2 dX_openRow_122
      · skip
        exact absurd (nI_le (by omega) (by omega)) h1
    | succ kk ih =>
      intro j hj H locs hP hD hS ls hl
      refine lv_iload hx hb dX_openRow_65 (lv_at hl 0 rfl) ?_
      refine lv_aload_n hx hb dX_openRow_67 rfl (lv_at hl 2 rfl) ?_
      refine va_get (D := (dC, dI)) (ci := 0) (v := .int (nI mn)) (C := "GroupRows") (T := FX) (N := 11) hx hb hta inX hown hK hP 0 rfl rfl 1 (by decide) (hta _ w20) (fun _ h9 => h9) rfl dX_openRow_68 ?_
      refine lv_icmp_ge (tgt := 122) hx hb dX_openRow_71 (by decide) (fun h1 => ?_) (fun h1 => ?_)
      · skip
        exact absurd h1 (nI_ge (a := j) (by omega) (by omega))
      · skip
        refine lv_aload_n hx hb dX_openRow_74 rfl (lv_at hl 2 rfl) ?_
        refine va_get (D := (dC, dI)) (ci := 0) (v := .ref (a 6)) (C := "GroupRows") (T := FX) (N := 11) hx hb hta inX hown hK hP 0 rfl rfl 8 (by decide) (hta _ w27) (fun _ h9 => h9) rfl dX_openRow_75 ?_
        refine lv_iload_n hx hb dX_openRow_78 rfl (lv_at hl 1 rfl) ?_
        refine lv_iload hx hb dX_openRow_79 (lv_at hl 0 rfl) ?_
        refine lv_iadd hx hb dX_openRow_81 ?_
        refine gi_as (y := nI ((8 * q) + j)) (nI_add _ _) ?_
        refine lv_lconst (v := 0) hx hb dX_openRow_82 (by decide) ?_
        refine gi_last hx hb hK hP hD hS 6 5 rfl rfl (k := ((8 * q) + j)) (by omega) (by decide) dX_openRow_83 (fun H locs hP hD hS => ?_)
        have hP : va_P (dC, dI) classes (wX a k (nI wn) (nI mn) (nI (nn + 1)) fk fa (insL sl pl nn (nI q)) (va_cpy fk ks 0 (8 * q) wn) (vp_updL ct q 0) (vp_updL (upTo (fun _ _ => 0) (8 * q) sm j) ((8 * q) + j) 0) (upTo (fun m _ => fa m) (8 * q) le j) (upTo (fun m _ => fa m) (8 * q) gr j)) H := hP
        have hD : va_D A (wX a k (nI wn) (nI mn) (nI (nn + 1)) fk fa (insL sl pl nn (nI q)) (va_cpy fk ks 0 (8 * q) wn) (vp_updL ct q 0) (vp_updL (upTo (fun _ _ => 0) (8 * q) sm j) ((8 * q) + j) 0) (upTo (fun m _ => fa m) (8 * q) le j) (upTo (fun m _ => fa m) (8 * q) gr j)) := hD
        refine lv_aload_n hx hb dX_openRow_84 rfl (lv_at hl 2 rfl) ?_
        refine va_get (D := (dC, dI)) (ci := 0) (v := .ref (a 7)) (C := "GroupRows") (T := FX) (N := 11) hx hb hta inX hown hK hP 0 rfl rfl 9 (by decide) (hta _ w28) (fun _ h9 => h9) rfl dX_openRow_85 ?_
        refine lv_iload_n hx hb dX_openRow_88 rfl (lv_at hl 1 rfl) ?_
        refine lv_iload hx hb dX_openRow_89 (lv_at hl 0 rfl) ?_
        refine lv_iadd hx hb dX_openRow_91 ?_
        refine gi_as (y := nI ((8 * q) + j)) (nI_add _ _) ?_
        refine lv_aload_n hx hb dX_openRow_92 rfl (lv_at hl 2 rfl) ?_
        refine va_get (D := (dC, dI)) (ci := 0) (v := .ref (a 2)) (C := "GroupRows") (T := FX) (N := 11) hx hb hta inX hown hK hP 0 rfl rfl 4 (by decide) (hta _ w23) (fun _ h9 => h9) rfl dX_openRow_93 ?_
        refine lv_iload hx hb dX_openRow_96 (lv_at hl 0 rfl) ?_
        refine gi_lald hx hb hK hP 2 1 rfl rfl (k := j) (by omega) (by decide) dX_openRow_98 ?_
        refine gi_last hx hb hK hP hD hS 7 6 rfl rfl (k := ((8 * q) + j)) (by omega) (by decide) dX_openRow_99 (fun H locs hP hD hS => ?_)
        have hP : va_P (dC, dI) classes (wX a k (nI wn) (nI mn) (nI (nn + 1)) fk fa (insL sl pl nn (nI q)) (va_cpy fk ks 0 (8 * q) wn) (vp_updL ct q 0) (vp_updL (upTo (fun _ _ => 0) (8 * q) sm j) ((8 * q) + j) 0) (vp_updL (upTo (fun m _ => fa m) (8 * q) le j) ((8 * q) + j) (fa j)) (upTo (fun m _ => fa m) (8 * q) gr j)) H := hP
        have hD : va_D A (wX a k (nI wn) (nI mn) (nI (nn + 1)) fk fa (insL sl pl nn (nI q)) (va_cpy fk ks 0 (8 * q) wn) (vp_updL ct q 0) (vp_updL (upTo (fun _ _ => 0) (8 * q) sm j) ((8 * q) + j) 0) (vp_updL (upTo (fun m _ => fa m) (8 * q) le j) ((8 * q) + j) (fa j)) (upTo (fun m _ => fa m) (8 * q) gr j)) := hD
        refine lv_aload_n hx hb dX_openRow_100 rfl (lv_at hl 2 rfl) ?_
        refine va_get (D := (dC, dI)) (ci := 0) (v := .ref (a 8)) (C := "GroupRows") (T := FX) (N := 11) hx hb hta inX hown hK hP 0 rfl rfl 10 (by decide) (hta _ w29) (fun _ h9 => h9) rfl dX_openRow_101 ?_
        refine lv_iload_n hx hb dX_openRow_104 rfl (lv_at hl 1 rfl) ?_
        refine lv_iload hx hb dX_openRow_105 (lv_at hl 0 rfl) ?_
        refine lv_iadd hx hb dX_openRow_107 ?_
        refine gi_as (y := nI ((8 * q) + j)) (nI_add _ _) ?_
        refine lv_aload_n hx hb dX_openRow_108 rfl (lv_at hl 2 rfl) ?_
        refine va_get (D := (dC, dI)) (ci := 0) (v := .ref (a 2)) (C := "GroupRows") (T := FX) (N := 11) hx hb hta inX hown hK hP 0 rfl rfl 4 (by decide) (hta _ w23) (fun _ h9 => h9) rfl dX_openRow_109 ?_
        refine lv_iload hx hb dX_openRow_112 (lv_at hl 0 rfl) ?_
        refine gi_lald hx hb hK hP 2 1 rfl rfl (k := j) (by omega) (by decide) dX_openRow_114 ?_
        refine gi_last hx hb hK hP hD hS 8 7 rfl rfl (k := ((8 * q) + j)) (by omega) (by decide) dX_openRow_115 (fun H locs hP hD hS => ?_)
        have hP : va_P (dC, dI) classes (wX a k (nI wn) (nI mn) (nI (nn + 1)) fk fa (insL sl pl nn (nI q)) (va_cpy fk ks 0 (8 * q) wn) (vp_updL ct q 0) (vp_updL (upTo (fun _ _ => 0) (8 * q) sm j) ((8 * q) + j) 0) (vp_updL (upTo (fun m _ => fa m) (8 * q) le j) ((8 * q) + j) (fa j)) (vp_updL (upTo (fun m _ => fa m) (8 * q) gr j) ((8 * q) + j) (fa j))) H := hP
        have hD : va_D A (wX a k (nI wn) (nI mn) (nI (nn + 1)) fk fa (insL sl pl nn (nI q)) (va_cpy fk ks 0 (8 * q) wn) (vp_updL ct q 0) (vp_updL (upTo (fun _ _ => 0) (8 * q) sm j) ((8 * q) + j) 0) (vp_updL (upTo (fun m _ => fa m) (8 * q) le j) ((8 * q) + j) (fa j)) (vp_updL (upTo (fun m _ => fa m) (8 * q) gr j) ((8 * q) + j) (fa j))) := hD
        refine lv_iinc (v := (nI (j + 1))) (lv' := [(4, .int (nI (j + 1))), (3, .int (nI (8 * q))), (0, .ref (a 0))]) hx hb dX_openRow_116 hl (k := 0) rfl (nI_1 _) (by decide) rfl (fun ls hl => ?_)
        refine lv_goto (tgt := 65) hx hb dX_openRow_119 (by decide) ?_
        have hl := lv_sub hl [0, 1, 2] rfl
        have hl : lv_has ls 5 [(4, .int (nI (j + 1))), (3, .int (nI (8 * q))), (0, .ref (a 0))] := hl
        exact ih (j + 1) (by omega) H locs hP hD hS ls hl
  have hl := lv_sub hl [0, 1, 3] rfl
  have hl : lv_has ls 5 [(4, .int (nI 0)), (3, .int (nI (8 * q))), (0, .ref (a 0))] := hl
  exact loop mn 0 (by omega) H locs hP hD hS ls hl
