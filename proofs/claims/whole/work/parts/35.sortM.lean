set_option maxHeartbeats 4000000 in
set_option maxRecDepth 100000 in
/-- join -/
theorem c_join (l : Launch) (dC : Nat → ClassId) (dI : Nat → Nat → Nat) (b : Nat → Nat) (d : Nat → ClassId) (mn : Nat) (cd w2 n2 : Int32) (ks2 : Nat → Int32) (ct2 sm2 le2 gr2 : Nat → Int64) (fk2 : Nat → Int32) (fa2 : Nat → Int64) (o q : Nat) (hq : q < 1000) (ho : o < 1000) (hqo : q ≠ o) (hmn : mn ≤ 8) (sz : Nat)  : Met l yM_join (Cond.code yM_join bM_join 6 none :: wAll) rm0 (va_Pc [.ref (b 0), .int (nI o), .int (nI q)] (fun U => U.heap.size = sz ∧ va_P (dC, dI) classes (wM b d cd w2 (nI mn) n2 ks2 ct2 sm2 le2 gr2 fk2 fa2) U.heap ∧ va_K (dC, dI) classes (kM d) U ∧ va_D (fun _ => True) (wM b d cd w2 (nI mn) n2 ks2 ct2 sm2 le2 gr2 fk2 fa2))) (va_Qv (fun _ : Unit => True) (fun (_ : Unit) (t9 : State) => va_P (dC, dI) classes (wM b d cd w2 (nI mn) n2 ks2 (vp_updL ct2 q (ct2 q + ct2 o)) (upTo (fun m x => x + sm2 (8 * o + m)) (8 * q) sm2 mn) (upTo (fun m x => if le2 (8 * o + m) < x then le2 (8 * o + m) else x) (8 * q) le2 mn) (upTo (fun m x => if x < gr2 (8 * o + m) then gr2 (8 * o + m) else x) (8 * q) gr2 mn) fk2 fa2) t9.heap ∧ va_K (dC, dI) classes (kM d) t9 ∧ va_D (va_A (wM b d cd w2 (nI mn) n2 ks2 ct2 sm2 le2 gr2 fk2 fa2) sz) (wM b d cd w2 (nI mn) n2 ks2 (vp_updL ct2 q (ct2 q + ct2 o)) (upTo (fun m x => x + sm2 (8 * o + m)) (8 * q) sm2 mn) (upTo (fun m x => if le2 (8 * o + m) < x then le2 (8 * o + m) else x) (8 * q) le2 mn) (upTo (fun m x => if x < gr2 (8 * o + m) then gr2 (8 * o + m) else x) (8 * q) gr2 mn) fk2 fa2)) (va_A (wM b d cd w2 (nI mn) n2 ks2 ct2 sm2 le2 gr2 fk2 fa2) sz)) 0 0 (va_A (wM b d cd w2 (nI mn) n2 ks2 ct2 sm2 le2 gr2 fk2 fa2) sz) := by
  refine Met.ofW (cc := bM_join) (maxL := 6) (ret := none) (by decide) rfl ?_
  intro p e s m args below meth c s₁ B hml hv
  obtain ⟨rfl, hsz, hP, hK, hD0⟩ := hv
  have hx := B.exec
  have hb := B.bytes
  have hr := B.returns
  have hta : ∀ w ∈ wAll, w.before ([.ref (b 0), .int (nI o), .int (nI q)] : List Value).toArray s = true := fun w h => atoms_spec (ws := (Cond.code yM_join bM_join 6 none :: wAll)) B.pre w (List.mem_cons_of_mem _ h)
  have hown : s.vm.findClass "GroupRowsModel" = some m.cls := findClass_of_methodNamed B.named
  have hlocks := B.notSynchronized
  subst hsz
  have hD := hD0.self (sz := s.heap.size)
  generalize hAe : va_A (wM b d cd w2 (nI mn) n2 ks2 ct2 sm2 le2 gr2 fk2 fa2) s.heap.size = A at hD ⊢
  have hA : ∀ q : Nat, s.heap.size ≤ q → A q := fun q h => by rw [← hAe]; exact Or.inr h
  have hS : va_S A s.heap s.heap [] := va_S.rf
  have hP : va_P (dC, dI) classes (wM b d cd w2 (nI mn) n2 ks2 ct2 sm2 le2 gr2 fk2 fa2) s.heap := hP
  have hl := lv_entry ([.ref (b 0), .int (nI o), .int (nI q)]) (n := 6) (Nat.le_of_ble_eq_true rfl)
  rw [lg_entry_eq]
  generalize (lg_sl ([.ref (b 0), .int (nI o), .int (nI q)]) ++ List.replicate (6 - (lg_sl ([.ref (b 0), .int (nI o), .int (nI q)])).length) Slot.unset).toArray = ls at hl ⊢
  have hl : lv_has ls 6 [(0, .ref (b 0)), (1, .int (nI o)), (2, .int (nI q))] := hl
  refine lv_aload_n hx hb dM_join_0 rfl (lv_at hl 0 rfl) ?_
  refine va_get (D := (dC, dI)) (ci := 1) (v := .ref (b 2)) (C := "GroupRowsModel") (T := FM) (N := 11) hx hb hta inM hown hK hP 0 rfl rfl 5 (by decide) (hta _ w283) (fun _ h9 => h9) rfl dM_join_1 ?_
  refine lv_iload_n hx hb dM_join_4 rfl (lv_at hl 2 rfl) ?_
  refine lv_dup2_11 hx hb dM_join_5 rfl rfl ?_
  refine gi_lald hx hb hK hP 2 1 rfl rfl (k := q) (by omega) (by decide) dM_join_6 ?_
  refine lv_aload_n hx hb dM_join_7 rfl (lv_at hl 0 rfl) ?_
  refine va_get (D := (dC, dI)) (ci := 1) (v := .ref (b 2)) (C := "GroupRowsModel") (T := FM) (N := 11) hx hb hta inM hown hK hP 0 rfl rfl 5 (by decide) (hta _ w283) (fun _ h9 => h9) rfl dM_join_8 ?_
  refine lv_iload_n hx hb dM_join_11 rfl (lv_at hl 1 rfl) ?_
  refine gi_lald hx hb hK hP 2 1 rfl rfl (k := o) (by omega) (by decide) dM_join_12 ?_
  refine lv_ladd hx hb dM_join_13 ?_
  refine gi_last hx hb hK hP hD hS 2 1 rfl rfl (k := q) (by omega) (by decide) dM_join_14 (fun H locs hP hD hS => ?_)
  have hP : va_P (dC, dI) classes (wM b d cd w2 (nI mn) n2 ks2 (vp_updL ct2 q ((ct2 q) + (ct2 o))) sm2 le2 gr2 fk2 fa2) H := hP
  have hD : va_D A (wM b d cd w2 (nI mn) n2 ks2 (vp_updL ct2 q ((ct2 q) + (ct2 o))) sm2 le2 gr2 fk2 fa2) := hD
  refine lv_iconst (v := 0) hx hb dM_join_15 (by decide) ?_
  refine gi_as (y := nI 0) (nI_0.symm) ?_
  refine lv_istore_n (lv' := [(3, .int (nI 0)), (0, .ref (b 0)), (1, .int (nI o)), (2, .int (nI q))]) hx hb dM_join_16 rfl hl (by decide) rfl (fun ls hl => ?_)
  have loop : ∀ (kk j : Nat), j + kk = mn → ∀ (H : Heap) (locs : List Loc), va_P (dC, dI) classes (wM b d cd w2 (nI mn) n2 ks2 (vp_updL ct2 q (ct2 q + ct2 o)) (upTo (fun m x => x + sm2 (8 * o + m)) (8 * q) sm2 j) (upTo (fun m x => if le2 (8 * o + m) < x then le2 (8 * o + m) else x) (8 * q) le2 j) (upTo (fun m x => if x < gr2 (8 * o + m) then gr2 (8 * o + m) else x) (8 * q) gr2 j) fk2 fa2) H → va_D A (wM b d cd w2 (nI mn) n2 ks2 (vp_updL ct2 q (ct2 q + ct2 o)) (upTo (fun m x => x + sm2 (8 * o + m)) (8 * q) sm2 j) (upTo (fun m x => if le2 (8 * o + m) < x then le2 (8 * o + m) else x) (8 * q) le2 j) (upTo (fun m x => if x < gr2 (8 * o + m) then gr2 (8 * o + m) else x) (8 * q) gr2 j) fk2 fa2) → va_S A s.heap H locs → ∀ (ls : Array Slot), lv_has ls 6 [(3, .int (nI j)), (0, .ref (b 0)), (1, .int (nI o)), (2, .int (nI q))] → W p l e (headSpec (Cond.code yM_join bM_join 6 none :: wAll) rm0).room s m ([.ref (b 0), .int (nI o), .int (nI q)] : List Value).toArray below meth c H locs 0 0 (MQ below (va_Qv (fun _ : Unit => True) (fun (_ : Unit) (t9 : State) => va_P (dC, dI) classes (wM b d cd w2 (nI mn) n2 ks2 (vp_updL ct2 q (ct2 q + ct2 o)) (upTo (fun m x => x + sm2 (8 * o + m)) (8 * q) sm2 mn) (upTo (fun m x => if le2 (8 * o + m) < x then le2 (8 * o + m) else x) (8 * q) le2 mn) (upTo (fun m x => if x < gr2 (8 * o + m) then gr2 (8 * o + m) else x) (8 * q) gr2 mn) fk2 fa2) t9.heap ∧ va_K (dC, dI) classes (kM d) t9 ∧ va_D A (wM b d cd w2 (nI mn) n2 ks2 (vp_updL ct2 q (ct2 q + ct2 o)) (upTo (fun m x => x + sm2 (8 * o + m)) (8 * q) sm2 mn) (upTo (fun m x => if le2 (8 * o + m) < x then le2 (8 * o + m) else x) (8 * q) le2 mn) (upTo (fun m x => if x < gr2 (8 * o + m) then gr2 (8 * o + m) else x) (8 * q) gr2 mn) fk2 fa2)) A) ([.ref (b 0), .int (nI o), .int (nI q)] : List Value).toArray s 0 0 A) (F0 m 17 ls []) := by
    intro kk
    induction kk with
    | zero =>
      intro j hj H locs hP hD hS ls hl
      refine lv_iload_n hx hb dM_join_17 rfl (lv_at hl 0 rfl) ?_
      refine lv_aload_n hx hb dM_join_18 rfl (lv_at hl 1 rfl) ?_
      refine va_get (D := (dC, dI)) (ci := 1) (v := .int (nI mn)) (C := "GroupRowsModel") (T := FM) (N := 11) hx hb hta inM hown hK hP 0 rfl rfl 2 (by decide) (hta _ w280) (fun _ h9 => h9) rfl dM_join_19 ?_
      refine lv_icmp_ge (tgt := 148) hx hb dM_join_22 (by decide) (fun h1 => ?_) (fun h1 => ?_)
      · skip
        have hj : mn = j := by omega
        subst hj
        have hP : va_P (dC, dI) classes (wM b d cd w2 (nI mn) n2 ks2 (vp_updL ct2 q (ct2 q + ct2 o)) (upTo (fun m x => x + sm2 (8 * o + m)) (8 * q) sm2 mn) (upTo (fun m x => if le2 (8 * o + m) < x then le2 (8 * o + m) else x) (8 * q) le2 mn) (upTo (fun m x => if x < gr2 (8 * o + m) then gr2 (8 * o + m) else x) (8 * q) gr2 mn) fk2 fa2) H := hP
        have hD : va_D A (wM b d cd w2 (nI mn) n2 ks2 (vp_updL ct2 q (ct2 q + ct2 o)) (upTo (fun m x => x + sm2 (8 * o + m)) (8 * q) sm2 mn) (upTo (fun m x => if le2 (8 * o + m) < x then le2 (8 * o + m) else x) (8 * q) le2 mn) (upTo (fun m x => if x < gr2 (8 * o + m) then gr2 (8 * o + m) else x) (8 * q) gr2 mn) fk2 fa2) := hD
        exact W.vret hx hb hr (fun t9 ht9 hW9 => ⟨⟨(), rfl, trivial, by rw [ht9]; exact hP, va_K.moved hW9.alike hK, hD⟩, hS.F ht9⟩) hS.2.2 dM_join_148
      · skip
        exact absurd (nI_le (by omega) (by omega)) h1
    | succ kk ih =>
      intro j hj H locs hP hD hS ls hl
      refine lv_iload_n hx hb dM_join_17 rfl (lv_at hl 0 rfl) ?_
      refine lv_aload_n hx hb dM_join_18 rfl (lv_at hl 1 rfl) ?_
      refine va_get (D := (dC, dI)) (ci := 1) (v := .int (nI mn)) (C := "GroupRowsModel") (T := FM) (N := 11) hx hb hta inM hown hK hP 0 rfl rfl 2 (by decide) (hta _ w280) (fun _ h9 => h9) rfl dM_join_19 ?_
      refine lv_icmp_ge (tgt := 148) hx hb dM_join_22 (by decide) (fun h1 => ?_) (fun h1 => ?_)
      · skip
        exact absurd h1 (nI_ge (a := j) (by omega) (by omega))
      · skip
        refine lv_bipush (v := 8) hx hb dM_join_25 (by decide) ?_
        refine lv_iload_n hx hb dM_join_27 rfl (lv_at hl 2 rfl) ?_
        refine lv_imul hx hb dM_join_28 ?_
        refine gi_as (y := nI (8 * o)) (gi_8mul _) ?_
        refine lv_iload_n hx hb dM_join_29 rfl (lv_at hl 0 rfl) ?_
        refine lv_iadd hx hb dM_join_30 ?_
        refine gi_as (y := nI ((8 * o) + j)) (nI_add _ _) ?_
        refine lv_istore (lv' := [(4, .int (nI ((8 * o) + j))), (3, .int (nI j)), (0, .ref (b 0)), (1, .int (nI o)), (2, .int (nI q))]) hx hb dM_join_31 hl (by decide) rfl (fun ls hl => ?_)
        refine lv_bipush (v := 8) hx hb dM_join_33 (by decide) ?_
        refine lv_iload_n hx hb dM_join_35 rfl (lv_at hl 4 rfl) ?_
        refine lv_imul hx hb dM_join_36 ?_
        refine gi_as (y := nI (8 * q)) (gi_8mul _) ?_
        refine lv_iload_n hx hb dM_join_37 rfl (lv_at hl 1 rfl) ?_
        refine lv_iadd hx hb dM_join_38 ?_
        refine gi_as (y := nI ((8 * q) + j)) (nI_add _ _) ?_
        refine lv_istore (lv' := [(5, .int (nI ((8 * q) + j))), (4, .int (nI ((8 * o) + j))), (3, .int (nI j)), (0, .ref (b 0)), (1, .int (nI o)), (2, .int (nI q))]) hx hb dM_join_39 hl (by decide) rfl (fun ls hl => ?_)
        refine lv_aload_n hx hb dM_join_41 rfl (lv_at hl 3 rfl) ?_
        refine va_get (D := (dC, dI)) (ci := 1) (v := .ref (b 3)) (C := "GroupRowsModel") (T := FM) (N := 11) hx hb hta inM hown hK hP 0 rfl rfl 6 (by decide) (hta _ w284) (fun _ h9 => h9) rfl dM_join_42 ?_
        refine lv_iload hx hb dM_join_45 (lv_at hl 0 rfl) ?_
        refine lv_dup2_11 hx hb dM_join_47 rfl rfl ?_
        refine gi_lald hx hb hK hP 3 2 rfl rfl (k := ((8 * q) + j)) (by omega) (by decide) dM_join_48 ?_
        refine lv_aload_n hx hb dM_join_49 rfl (lv_at hl 3 rfl) ?_
        refine va_get (D := (dC, dI)) (ci := 1) (v := .ref (b 3)) (C := "GroupRowsModel") (T := FM) (N := 11) hx hb hta inM hown hK hP 0 rfl rfl 6 (by decide) (hta _ w284) (fun _ h9 => h9) rfl dM_join_50 ?_
        refine lv_iload hx hb dM_join_53 (lv_at hl 1 rfl) ?_
        refine gi_lald hx hb hK hP 3 2 rfl rfl (k := ((8 * o) + j)) (by omega) (by decide) dM_join_55 ?_
        refine gi_asl (y := sm2 (8 * o + j)) (upTo_out j (by omega)) ?_
        refine lv_ladd hx hb dM_join_56 ?_
        refine gi_last hx hb hK hP hD hS 3 2 rfl rfl (k := ((8 * q) + j)) (by omega) (by decide) dM_join_57 (fun H locs hP hD hS => ?_)
        have hP : va_P (dC, dI) classes (wM b d cd w2 (nI mn) n2 ks2 (vp_updL ct2 q (ct2 q + ct2 o)) (vp_updL (upTo (fun m x => x + sm2 (8 * o + m)) (8 * q) sm2 j) ((8 * q) + j) (((upTo (fun m x => x + sm2 (8 * o + m)) (8 * q) sm2 j) ((8 * q) + j)) + (sm2 (8 * o + j)))) (upTo (fun m x => if le2 (8 * o + m) < x then le2 (8 * o + m) else x) (8 * q) le2 j) (upTo (fun m x => if x < gr2 (8 * o + m) then gr2 (8 * o + m) else x) (8 * q) gr2 j) fk2 fa2) H := hP
        have hD : va_D A (wM b d cd w2 (nI mn) n2 ks2 (vp_updL ct2 q (ct2 q + ct2 o)) (vp_updL (upTo (fun m x => x + sm2 (8 * o + m)) (8 * q) sm2 j) ((8 * q) + j) (((upTo (fun m x => x + sm2 (8 * o + m)) (8 * q) sm2 j) ((8 * q) + j)) + (sm2 (8 * o + j)))) (upTo (fun m x => if le2 (8 * o + m) < x then le2 (8 * o + m) else x) (8 * q) le2 j) (upTo (fun m x => if x < gr2 (8 * o + m) then gr2 (8 * o + m) else x) (8 * q) gr2 j) fk2 fa2) := hD
        refine lv_aload_n hx hb dM_join_58 rfl (lv_at hl 3 rfl) ?_
        refine va_get (D := (dC, dI)) (ci := 1) (v := .ref (b 4)) (C := "GroupRowsModel") (T := FM) (N := 11) hx hb hta inM hown hK hP 0 rfl rfl 7 (by decide) (hta _ w285) (fun _ h9 => h9) rfl dM_join_59 ?_
        refine lv_iload hx hb dM_join_62 (lv_at hl 0 rfl) ?_
        refine lv_aload_n hx hb dM_join_64 rfl (lv_at hl 3 rfl) ?_
        refine va_get (D := (dC, dI)) (ci := 1) (v := .ref (b 4)) (C := "GroupRowsModel") (T := FM) (N := 11) hx hb hta inM hown hK hP 0 rfl rfl 7 (by decide) (hta _ w285) (fun _ h9 => h9) rfl dM_join_65 ?_
        refine lv_iload hx hb dM_join_68 (lv_at hl 1 rfl) ?_
        refine gi_lald hx hb hK hP 4 3 rfl rfl (k := ((8 * o) + j)) (by omega) (by decide) dM_join_70 ?_
        refine gi_asl (y := le2 (8 * o + j)) (upTo_out j (by omega)) ?_
        refine lv_aload_n hx hb dM_join_71 rfl (lv_at hl 3 rfl) ?_
        refine va_get (D := (dC, dI)) (ci := 1) (v := .ref (b 4)) (C := "GroupRowsModel") (T := FM) (N := 11) hx hb hta inM hown hK hP 0 rfl rfl 7 (by decide) (hta _ w285) (fun _ h9 => h9) rfl dM_join_72 ?_
        refine lv_iload hx hb dM_join_75 (lv_at hl 0 rfl) ?_
        refine gi_lald hx hb hK hP 4 3 rfl rfl (k := ((8 * q) + j)) (by omega) (by decide) dM_join_77 ?_
        have j1 : W p l e (headSpec (Cond.code yM_join bM_join 6 none :: wAll) rm0).room s m ([.ref (b 0), .int (nI o), .int (nI q)] : List Value).toArray below meth c H locs 0 0 (MQ below (va_Qv (fun _ : Unit => True) (fun (_ : Unit) (t9 : State) => va_P (dC, dI) classes (wM b d cd w2 (nI mn) n2 ks2 (vp_updL ct2 q (ct2 q + ct2 o)) (upTo (fun m x => x + sm2 (8 * o + m)) (8 * q) sm2 mn) (upTo (fun m x => if le2 (8 * o + m) < x then le2 (8 * o + m) else x) (8 * q) le2 mn) (upTo (fun m x => if x < gr2 (8 * o + m) then gr2 (8 * o + m) else x) (8 * q) gr2 mn) fk2 fa2) t9.heap ∧ va_K (dC, dI) classes (kM d) t9 ∧ va_D A (wM b d cd w2 (nI mn) n2 ks2 (vp_updL ct2 q (ct2 q + ct2 o)) (upTo (fun m x => x + sm2 (8 * o + m)) (8 * q) sm2 mn) (upTo (fun m x => if le2 (8 * o + m) < x then le2 (8 * o + m) else x) (8 * q) le2 mn) (upTo (fun m x => if x < gr2 (8 * o + m) then gr2 (8 * o + m) else x) (8 * q) gr2 mn) fk2 fa2)) A) ([.ref (b 0), .int (nI o), .int (nI q)] : List Value).toArray s 0 0 A) (F0 m 99 ls [.long (if le2 (8 * o + j) < (upTo (fun m x => if le2 (8 * o + m) < x then le2 (8 * o + m) else x) (8 * q) le2 j) (8 * q + j) then le2 (8 * o + j) else (upTo (fun m x => if le2 (8 * o + m) < x then le2 (8 * o + m) else x) (8 * q) le2 j) (8 * q + j)),.int (nI ((8 * q) + j)),.ref (b 4)]) := by
          refine gi_last hx hb hK hP hD hS 4 3 rfl rfl (k := ((8 * q) + j)) (by omega) (by decide) dM_join_99 (fun H locs hP hD hS => ?_)
          have hP : va_P (dC, dI) classes (wM b d cd w2 (nI mn) n2 ks2 (vp_updL ct2 q (ct2 q + ct2 o)) (vp_updL (upTo (fun m x => x + sm2 (8 * o + m)) (8 * q) sm2 j) ((8 * q) + j) (((upTo (fun m x => x + sm2 (8 * o + m)) (8 * q) sm2 j) ((8 * q) + j)) + (sm2 (8 * o + j)))) (vp_updL (upTo (fun m x => if le2 (8 * o + m) < x then le2 (8 * o + m) else x) (8 * q) le2 j) ((8 * q) + j) (if le2 (8 * o + j) < (upTo (fun m x => if le2 (8 * o + m) < x then le2 (8 * o + m) else x) (8 * q) le2 j) (8 * q + j) then le2 (8 * o + j) else (upTo (fun m x => if le2 (8 * o + m) < x then le2 (8 * o + m) else x) (8 * q) le2 j) (8 * q + j))) (upTo (fun m x => if x < gr2 (8 * o + m) then gr2 (8 * o + m) else x) (8 * q) gr2 j) fk2 fa2) H := hP
          have hD : va_D A (wM b d cd w2 (nI mn) n2 ks2 (vp_updL ct2 q (ct2 q + ct2 o)) (vp_updL (upTo (fun m x => x + sm2 (8 * o + m)) (8 * q) sm2 j) ((8 * q) + j) (((upTo (fun m x => x + sm2 (8 * o + m)) (8 * q) sm2 j) ((8 * q) + j)) + (sm2 (8 * o + j)))) (vp_updL (upTo (fun m x => if le2 (8 * o + m) < x then le2 (8 * o + m) else x) (8 * q) le2 j) ((8 * q) + j) (if le2 (8 * o + j) < (upTo (fun m x => if le2 (8 * o + m) < x then le2 (8 * o + m) else x) (8 * q) le2 j) (8 * q + j) then le2 (8 * o + j) else (upTo (fun m x => if le2 (8 * o + m) < x then le2 (8 * o + m) else x) (8 * q) le2 j) (8 * q + j))) (upTo (fun m x => if x < gr2 (8 * o + m) then gr2 (8 * o + m) else x) (8 * q) gr2 j) fk2 fa2) := hD
          refine lv_aload_n hx hb dM_join_100 rfl (lv_at hl 3 rfl) ?_
          refine va_get (D := (dC, dI)) (ci := 1) (v := .ref (b 5)) (C := "GroupRowsModel") (T := FM) (N := 11) hx hb hta inM hown hK hP 0 rfl rfl 8 (by decide) (hta _ w286) (fun _ h9 => h9) rfl dM_join_101 ?_
          refine lv_iload hx hb dM_join_104 (lv_at hl 0 rfl) ?_
          refine lv_aload_n hx hb dM_join_106 rfl (lv_at hl 3 rfl) ?_
          refine va_get (D := (dC, dI)) (ci := 1) (v := .ref (b 5)) (C := "GroupRowsModel") (T := FM) (N := 11) hx hb hta inM hown hK hP 0 rfl rfl 8 (by decide) (hta _ w286) (fun _ h9 => h9) rfl dM_join_107 ?_
          refine lv_iload hx hb dM_join_110 (lv_at hl 1 rfl) ?_
          refine gi_lald hx hb hK hP 5 4 rfl rfl (k := ((8 * o) + j)) (by omega) (by decide) dM_join_112 ?_
          refine gi_asl (y := gr2 (8 * o + j)) (upTo_out j (by omega)) ?_
          refine lv_aload_n hx hb dM_join_113 rfl (lv_at hl 3 rfl) ?_
          refine va_get (D := (dC, dI)) (ci := 1) (v := .ref (b 5)) (C := "GroupRowsModel") (T := FM) (N := 11) hx hb hta inM hown hK hP 0 rfl rfl 8 (by decide) (hta _ w286) (fun _ h9 => h9) rfl dM_join_114 ?_
          refine lv_iload hx hb dM_join_117 (lv_at hl 0 rfl) ?_
          refine gi_lald hx hb hK hP 5 4 rfl rfl (k := ((8 * q) + j)) (by omega) (by decide) dM_join_119 ?_
          have j2 : W p l e (headSpec (Cond.code yM_join bM_join 6 none :: wAll) rm0).room s m ([.ref (b 0), .int (nI o), .int (nI q)] : List Value).toArray below meth c H locs 0 0 (MQ below (va_Qv (fun _ : Unit => True) (fun (_ : Unit) (t9 : State) => va_P (dC, dI) classes (wM b d cd w2 (nI mn) n2 ks2 (vp_updL ct2 q (ct2 q + ct2 o)) (upTo (fun m x => x + sm2 (8 * o + m)) (8 * q) sm2 mn) (upTo (fun m x => if le2 (8 * o + m) < x then le2 (8 * o + m) else x) (8 * q) le2 mn) (upTo (fun m x => if x < gr2 (8 * o + m) then gr2 (8 * o + m) else x) (8 * q) gr2 mn) fk2 fa2) t9.heap ∧ va_K (dC, dI) classes (kM d) t9 ∧ va_D A (wM b d cd w2 (nI mn) n2 ks2 (vp_updL ct2 q (ct2 q + ct2 o)) (upTo (fun m x => x + sm2 (8 * o + m)) (8 * q) sm2 mn) (upTo (fun m x => if le2 (8 * o + m) < x then le2 (8 * o + m) else x) (8 * q) le2 mn) (upTo (fun m x => if x < gr2 (8 * o + m) then gr2 (8 * o + m) else x) (8 * q) gr2 mn) fk2 fa2)) A) ([.ref (b 0), .int (nI o), .int (nI q)] : List Value).toArray s 0 0 A) (F0 m 141 ls [.long (if (upTo (fun m x => if x < gr2 (8 * o + m) then gr2 (8 * o + m) else x) (8 * q) gr2 j) (8 * q + j) < gr2 (8 * o + j) then gr2 (8 * o + j) else (upTo (fun m x => if x < gr2 (8 * o + m) then gr2 (8 * o + m) else x) (8 * q) gr2 j) (8 * q + j)),.int (nI ((8 * q) + j)),.ref (b 5)]) := by
            refine gi_last hx hb hK hP hD hS 5 4 rfl rfl (k := ((8 * q) + j)) (by omega) (by decide) dM_join_141 (fun H locs hP hD hS => ?_)
            have hP : va_P (dC, dI) classes (wM b d cd w2 (nI mn) n2 ks2 (vp_updL ct2 q (ct2 q + ct2 o)) (vp_updL (upTo (fun m x => x + sm2 (8 * o + m)) (8 * q) sm2 j) ((8 * q) + j) (((upTo (fun m x => x + sm2 (8 * o + m)) (8 * q) sm2 j) ((8 * q) + j)) + (sm2 (8 * o + j)))) (vp_updL (upTo (fun m x => if le2 (8 * o + m) < x then le2 (8 * o + m) else x) (8 * q) le2 j) ((8 * q) + j) (if le2 (8 * o + j) < (upTo (fun m x => if le2 (8 * o + m) < x then le2 (8 * o + m) else x) (8 * q) le2 j) (8 * q + j) then le2 (8 * o + j) else (upTo (fun m x => if le2 (8 * o + m) < x then le2 (8 * o + m) else x) (8 * q) le2 j) (8 * q + j))) (vp_updL (upTo (fun m x => if x < gr2 (8 * o + m) then gr2 (8 * o + m) else x) (8 * q) gr2 j) ((8 * q) + j) (if (upTo (fun m x => if x < gr2 (8 * o + m) then gr2 (8 * o + m) else x) (8 * q) gr2 j) (8 * q + j) < gr2 (8 * o + j) then gr2 (8 * o + j) else (upTo (fun m x => if x < gr2 (8 * o + m) then gr2 (8 * o + m) else x) (8 * q) gr2 j) (8 * q + j))) fk2 fa2) H := hP
            have hD : va_D A (wM b d cd w2 (nI mn) n2 ks2 (vp_updL ct2 q (ct2 q + ct2 o)) (vp_updL (upTo (fun m x => x + sm2 (8 * o + m)) (8 * q) sm2 j) ((8 * q) + j) (((upTo (fun m x => x + sm2 (8 * o + m)) (8 * q) sm2 j) ((8 * q) + j)) + (sm2 (8 * o + j)))) (vp_updL (upTo (fun m x => if le2 (8 * o + m) < x then le2 (8 * o + m) else x) (8 * q) le2 j) ((8 * q) + j) (if le2 (8 * o + j) < (upTo (fun m x => if le2 (8 * o + m) < x then le2 (8 * o + m) else x) (8 * q) le2 j) (8 * q + j) then le2 (8 * o + j) else (upTo (fun m x => if le2 (8 * o + m) < x then le2 (8 * o + m) else x) (8 * q) le2 j) (8 * q + j))) (vp_updL (upTo (fun m x => if x < gr2 (8 * o + m) then gr2 (8 * o + m) else x) (8 * q) gr2 j) ((8 * q) + j) (if (upTo (fun m x => if x < gr2 (8 * o + m) then gr2 (8 * o + m) else x) (8 * q) gr2 j) (8 * q + j) < gr2 (8 * o + j) then gr2 (8 * o + j) else (upTo (fun m x => if x < gr2 (8 * o + m) then gr2 (8 * o + m) else x) (8 * q) gr2 j) (8 * q + j))) fk2 fa2) := hD
            refine lv_iinc (v := (nI (j + 1))) (lv' := [(3, .int (nI (j + 1))), (5, .int (nI ((8 * q) + j))), (4, .int (nI ((8 * o) + j))), (0, .ref (b 0)), (1, .int (nI o)), (2, .int (nI q))]) hx hb dM_join_142 hl (k := 2) rfl (nI_1 _) (by decide) rfl (fun ls hl => ?_)
            refine lv_goto (tgt := 17) hx hb dM_join_145 (by decide) ?_
            have hl := lv_sub hl [0, 3, 4, 5] rfl
            have hl : lv_has ls 6 [(3, .int (nI (j + 1))), (0, .ref (b 0)), (1, .int (nI o)), (2, .int (nI q))] := hl
            exact ih (j + 1) (by omega) H locs hP hD hS ls hl
          refine W.lcmp (x := (gr2 (8 * o + j))) (y := ((upTo (fun m x => if x < gr2 (8 * o + m) then gr2 (8 * o + m) else x) (8 * q) gr2 j) ((8 * q) + j))) hx hb dM_join_120 ?_
          refine lv_if_le (tgt := 134) hx hb dM_join_121 (by decide) (fun h3 => ?_) (fun h3 => ?_)
          · skip
            refine lv_aload_n hx hb dM_join_134 rfl (lv_at hl 3 rfl) ?_
            refine va_get (D := (dC, dI)) (ci := 1) (v := .ref (b 5)) (C := "GroupRowsModel") (T := FM) (N := 11) hx hb hta inM hown hK hP 0 rfl rfl 8 (by decide) (hta _ w286) (fun _ h9 => h9) rfl dM_join_135 ?_
            refine lv_iload hx hb dM_join_138 (lv_at hl 0 rfl) ?_
            refine gi_lald hx hb hK hP 5 4 rfl rfl (k := ((8 * q) + j)) (by omega) (by decide) dM_join_140 ?_
            refine gi_asl (y := (if (upTo (fun m x => if x < gr2 (8 * o + m) then gr2 (8 * o + m) else x) (8 * q) gr2 j) (8 * q + j) < gr2 (8 * o + j) then gr2 (8 * o + j) else (upTo (fun m x => if x < gr2 (8 * o + m) then gr2 (8 * o + m) else x) (8 * q) gr2 j) (8 * q + j))) ((if_neg (lg_le_not_lt ((lg_cmp_le _ _).mp h3))).symm) ?_
            exact j2
          · skip
            refine lv_aload_n hx hb dM_join_124 rfl (lv_at hl 3 rfl) ?_
            refine va_get (D := (dC, dI)) (ci := 1) (v := .ref (b 5)) (C := "GroupRowsModel") (T := FM) (N := 11) hx hb hta inM hown hK hP 0 rfl rfl 8 (by decide) (hta _ w286) (fun _ h9 => h9) rfl dM_join_125 ?_
            refine lv_iload hx hb dM_join_128 (lv_at hl 1 rfl) ?_
            refine gi_lald hx hb hK hP 5 4 rfl rfl (k := ((8 * o) + j)) (by omega) (by decide) dM_join_130 ?_
            refine gi_asl (y := gr2 (8 * o + j)) (upTo_out j (by omega)) ?_
            refine lv_goto (tgt := 141) hx hb dM_join_131 (by decide) ?_
            refine gi_asl (y := (if (upTo (fun m x => if x < gr2 (8 * o + m) then gr2 (8 * o + m) else x) (8 * q) gr2 j) (8 * q + j) < gr2 (8 * o + j) then gr2 (8 * o + j) else (upTo (fun m x => if x < gr2 (8 * o + m) then gr2 (8 * o + m) else x) (8 * q) gr2 j) (8 * q + j))) ((if_pos (Int64.not_le.mp (fun z => h3 ((lg_cmp_le _ _).mpr z)))).symm) ?_
            exact j2
        refine W.lcmp (x := (le2 (8 * o + j))) (y := ((upTo (fun m x => if le2 (8 * o + m) < x then le2 (8 * o + m) else x) (8 * q) le2 j) ((8 * q) + j))) hx hb dM_join_78 ?_
        refine lv_if_ge (tgt := 92) hx hb dM_join_79 (by decide) (fun h2 => ?_) (fun h2 => ?_)
        · skip
          refine lv_aload_n hx hb dM_join_92 rfl (lv_at hl 3 rfl) ?_
          refine va_get (D := (dC, dI)) (ci := 1) (v := .ref (b 4)) (C := "GroupRowsModel") (T := FM) (N := 11) hx hb hta inM hown hK hP 0 rfl rfl 7 (by decide) (hta _ w285) (fun _ h9 => h9) rfl dM_join_93 ?_
          refine lv_iload hx hb dM_join_96 (lv_at hl 0 rfl) ?_
          refine gi_lald hx hb hK hP 4 3 rfl rfl (k := ((8 * q) + j)) (by omega) (by decide) dM_join_98 ?_
          refine gi_asl (y := (if le2 (8 * o + j) < (upTo (fun m x => if le2 (8 * o + m) < x then le2 (8 * o + m) else x) (8 * q) le2 j) (8 * q + j) then le2 (8 * o + j) else (upTo (fun m x => if le2 (8 * o + m) < x then le2 (8 * o + m) else x) (8 * q) le2 j) (8 * q + j))) ((if_neg (lg_le_not_lt ((lg_cmp_ge _ _).mp h2))).symm) ?_
          exact j1
        · skip
          refine lv_aload_n hx hb dM_join_82 rfl (lv_at hl 3 rfl) ?_
          refine va_get (D := (dC, dI)) (ci := 1) (v := .ref (b 4)) (C := "GroupRowsModel") (T := FM) (N := 11) hx hb hta inM hown hK hP 0 rfl rfl 7 (by decide) (hta _ w285) (fun _ h9 => h9) rfl dM_join_83 ?_
          refine lv_iload hx hb dM_join_86 (lv_at hl 1 rfl) ?_
          refine gi_lald hx hb hK hP 4 3 rfl rfl (k := ((8 * o) + j)) (by omega) (by decide) dM_join_88 ?_
          refine gi_asl (y := le2 (8 * o + j)) (upTo_out j (by omega)) ?_
          refine lv_goto (tgt := 99) hx hb dM_join_89 (by decide) ?_
          refine gi_asl (y := (if le2 (8 * o + j) < (upTo (fun m x => if le2 (8 * o + m) < x then le2 (8 * o + m) else x) (8 * q) le2 j) (8 * q + j) then le2 (8 * o + j) else (upTo (fun m x => if le2 (8 * o + m) < x then le2 (8 * o + m) else x) (8 * q) le2 j) (8 * q + j))) ((if_pos (Int64.not_le.mp (fun z => h2 ((lg_cmp_ge _ _).mpr z)))).symm) ?_
          exact j1
  have hl := lv_sub hl [0, 1, 2, 3] rfl
  have hl : lv_has ls 6 [(3, .int (nI 0)), (0, .ref (b 0)), (1, .int (nI o)), (2, .int (nI q))] := hl
  exact loop mn 0 (by omega) H locs hP hD hS ls hl
set_option maxHeartbeats 4000000 in
set_option maxRecDepth 100000 in
/-- swap -/
theorem c_swap (l : Launch) (dC : Nat → ClassId) (dI : Nat → Nat → Nat) (b : Nat → Nat) (d : Nat → ClassId) (cd w2 ms2 n2 : Int32) (ks2 : Nat → Int32) (ct2 sm2 le2 gr2 : Nat → Int64) (fk2 : Nat → Int32) (fa2 : Nat → Int64) (x y : Nat) (hx9 : x < 1000) (hy9 : y < 1000) (sz : Nat)  : Met l yM_swap (Cond.code yM_swap bM_swap 15 none :: wAll) rm0 (va_Pc [.ref (b 0), .int (nI x), .int (nI y)] (fun U => U.heap.size = sz ∧ va_P (dC, dI) classes (wM b d cd w2 ms2 n2 ks2 ct2 sm2 le2 gr2 fk2 fa2) U.heap ∧ va_K (dC, dI) classes (kM d) U ∧ va_D (fun _ => True) (wM b d cd w2 ms2 n2 ks2 ct2 sm2 le2 gr2 fk2 fa2))) (va_Qv (fun _ : Unit => True) (fun (_ : Unit) (t9 : State) => va_P (dC, dI) classes (wM b d cd w2 ms2 n2 (swI ks2 x y 8) (vp_updL (vp_updL ct2 x (ct2 y)) y (ct2 x)) (swL sm2 x y 8) (swL le2 x y 8) (swL gr2 x y 8) fk2 fa2) t9.heap ∧ va_K (dC, dI) classes (kM d) t9 ∧ va_D (va_A (wM b d cd w2 ms2 n2 ks2 ct2 sm2 le2 gr2 fk2 fa2) sz) (wM b d cd w2 ms2 n2 (swI ks2 x y 8) (vp_updL (vp_updL ct2 x (ct2 y)) y (ct2 x)) (swL sm2 x y 8) (swL le2 x y 8) (swL gr2 x y 8) fk2 fa2)) (va_A (wM b d cd w2 ms2 n2 ks2 ct2 sm2 le2 gr2 fk2 fa2) sz)) 0 0 (va_A (wM b d cd w2 ms2 n2 ks2 ct2 sm2 le2 gr2 fk2 fa2) sz) := by
  refine Met.ofW (cc := bM_swap) (maxL := 15) (ret := none) (by decide) rfl ?_
  intro p e s m args below meth c s₁ B hml hv
  obtain ⟨rfl, hsz, hP, hK, hD0⟩ := hv
  have hx := B.exec
  have hb := B.bytes
  have hr := B.returns
  have hta : ∀ w ∈ wAll, w.before ([.ref (b 0), .int (nI x), .int (nI y)] : List Value).toArray s = true := fun w h => atoms_spec (ws := (Cond.code yM_swap bM_swap 15 none :: wAll)) B.pre w (List.mem_cons_of_mem _ h)
  have hown : s.vm.findClass "GroupRowsModel" = some m.cls := findClass_of_methodNamed B.named
  have hlocks := B.notSynchronized
  subst hsz
  have hD := hD0.self (sz := s.heap.size)
  generalize hAe : va_A (wM b d cd w2 ms2 n2 ks2 ct2 sm2 le2 gr2 fk2 fa2) s.heap.size = A at hD ⊢
  have hA : ∀ q : Nat, s.heap.size ≤ q → A q := fun q h => by rw [← hAe]; exact Or.inr h
  have hS : va_S A s.heap s.heap [] := va_S.rf
  have hP : va_P (dC, dI) classes (wM b d cd w2 ms2 n2 ks2 ct2 sm2 le2 gr2 fk2 fa2) s.heap := hP
  have hl := lv_entry ([.ref (b 0), .int (nI x), .int (nI y)]) (n := 15) (Nat.le_of_ble_eq_true rfl)
  rw [lg_entry_eq]
  generalize (lg_sl ([.ref (b 0), .int (nI x), .int (nI y)]) ++ List.replicate (15 - (lg_sl ([.ref (b 0), .int (nI x), .int (nI y)])).length) Slot.unset).toArray = ls at hl ⊢
  have hl : lv_has ls 15 [(0, .ref (b 0)), (1, .int (nI x)), (2, .int (nI y))] := hl
  refine lv_aload_n hx hb dM_swap_0 rfl (lv_at hl 0 rfl) ?_
  refine va_get (D := (dC, dI)) (ci := 1) (v := .ref (b 2)) (C := "GroupRowsModel") (T := FM) (N := 11) hx hb hta inM hown hK hP 0 rfl rfl 5 (by decide) (hta _ w283) (fun _ h9 => h9) rfl dM_swap_1 ?_
  refine lv_iload_n hx hb dM_swap_4 rfl (lv_at hl 1 rfl) ?_
  refine gi_lald hx hb hK hP 2 1 rfl rfl (k := x) (by omega) (by decide) dM_swap_5 ?_
  refine lv_lstore_n (lv' := [(3, .long (ct2 x)), (0, .ref (b 0)), (1, .int (nI x)), (2, .int (nI y))]) hx hb dM_swap_6 rfl hl (by decide) rfl (fun ls hl => ?_)
  refine lv_aload_n hx hb dM_swap_7 rfl (lv_at hl 1 rfl) ?_
  refine va_get (D := (dC, dI)) (ci := 1) (v := .ref (b 2)) (C := "GroupRowsModel") (T := FM) (N := 11) hx hb hta inM hown hK hP 0 rfl rfl 5 (by decide) (hta _ w283) (fun _ h9 => h9) rfl dM_swap_8 ?_
  refine lv_iload_n hx hb dM_swap_11 rfl (lv_at hl 2 rfl) ?_
  refine lv_aload_n hx hb dM_swap_12 rfl (lv_at hl 1 rfl) ?_
  refine va_get (D := (dC, dI)) (ci := 1) (v := .ref (b 2)) (C := "GroupRowsModel") (T := FM) (N := 11) hx hb hta inM hown hK hP 0 rfl rfl 5 (by decide) (hta _ w283) (fun _ h9 => h9) rfl dM_swap_13 ?_
  refine lv_iload_n hx hb dM_swap_16 rfl (lv_at hl 3 rfl) ?_
  refine gi_lald hx hb hK hP 2 1 rfl rfl (k := y) (by omega) (by decide) dM_swap_17 ?_
  refine gi_last hx hb hK hP hD hS 2 1 rfl rfl (k := x) (by omega) (by decide) dM_swap_18 (fun H locs hP hD hS => ?_)
  have hP : va_P (dC, dI) classes (wM b d cd w2 ms2 n2 ks2 (vp_updL ct2 x (ct2 y)) sm2 le2 gr2 fk2 fa2) H := hP
  have hD : va_D A (wM b d cd w2 ms2 n2 ks2 (vp_updL ct2 x (ct2 y)) sm2 le2 gr2 fk2 fa2) := hD
  refine lv_aload_n hx hb dM_swap_19 rfl (lv_at hl 1 rfl) ?_
  refine va_get (D := (dC, dI)) (ci := 1) (v := .ref (b 2)) (C := "GroupRowsModel") (T := FM) (N := 11) hx hb hta inM hown hK hP 0 rfl rfl 5 (by decide) (hta _ w283) (fun _ h9 => h9) rfl dM_swap_20 ?_
  refine lv_iload_n hx hb dM_swap_23 rfl (lv_at hl 3 rfl) ?_
  refine lv_lload_n hx hb dM_swap_24 rfl (lv_at hl 0 rfl) ?_
  refine gi_last hx hb hK hP hD hS 2 1 rfl rfl (k := y) (by omega) (by decide) dM_swap_25 (fun H locs hP hD hS => ?_)
  have hP : va_P (dC, dI) classes (wM b d cd w2 ms2 n2 ks2 (vp_updL (vp_updL ct2 x (ct2 y)) y (ct2 x)) sm2 le2 gr2 fk2 fa2) H := hP
  have hD : va_D A (wM b d cd w2 ms2 n2 ks2 (vp_updL (vp_updL ct2 x (ct2 y)) y (ct2 x)) sm2 le2 gr2 fk2 fa2) := hD
  refine lv_iconst (v := 0) hx hb dM_swap_26 (by decide) ?_
  refine gi_as (y := nI 0) (nI_0.symm) ?_
  refine lv_istore (lv' := [(5, .int (nI 0)), (3, .long (ct2 x)), (0, .ref (b 0)), (1, .int (nI x)), (2, .int (nI y))]) hx hb dM_swap_27 hl (by decide) rfl (fun ls hl => ?_)
  have loop : ∀ (kk j : Nat), j + kk = 8 → ∀ (H : Heap) (locs : List Loc), va_P (dC, dI) classes (wM b d cd w2 ms2 n2 (swI ks2 x y j) (vp_updL (vp_updL ct2 x (ct2 y)) y (ct2 x)) (swL sm2 x y j) (swL le2 x y j) (swL gr2 x y j) fk2 fa2) H → va_D A (wM b d cd w2 ms2 n2 (swI ks2 x y j) (vp_updL (vp_updL ct2 x (ct2 y)) y (ct2 x)) (swL sm2 x y j) (swL le2 x y j) (swL gr2 x y j) fk2 fa2) → va_S A s.heap H locs → ∀ (ls : Array Slot), lv_has ls 15 [(5, .int (nI j)), (0, .ref (b 0)), (1, .int (nI x)), (2, .int (nI y))] → W p l e (headSpec (Cond.code yM_swap bM_swap 15 none :: wAll) rm0).room s m ([.ref (b 0), .int (nI x), .int (nI y)] : List Value).toArray below meth c H locs 0 0 (MQ below (va_Qv (fun _ : Unit => True) (fun (_ : Unit) (t9 : State) => va_P (dC, dI) classes (wM b d cd w2 ms2 n2 (swI ks2 x y 8) (vp_updL (vp_updL ct2 x (ct2 y)) y (ct2 x)) (swL sm2 x y 8) (swL le2 x y 8) (swL gr2 x y 8) fk2 fa2) t9.heap ∧ va_K (dC, dI) classes (kM d) t9 ∧ va_D A (wM b d cd w2 ms2 n2 (swI ks2 x y 8) (vp_updL (vp_updL ct2 x (ct2 y)) y (ct2 x)) (swL sm2 x y 8) (swL le2 x y 8) (swL gr2 x y 8) fk2 fa2)) A) ([.ref (b 0), .int (nI x), .int (nI y)] : List Value).toArray s 0 0 A) (F0 m 29 ls []) := by
    intro kk
    induction kk with
    | zero =>
      intro j hj H locs hP hD hS ls hl
      refine lv_iload hx hb dM_swap_29 (lv_at hl 0 rfl) ?_
      refine lv_bipush (v := 8) hx hb dM_swap_31 (by decide) ?_
      refine gi_as (y := nI 8) (rfl) ?_
      refine lv_icmp_ge (tgt := 188) hx hb dM_swap_33 (by decide) (fun h1 => ?_) (fun h1 => ?_)
      · skip
        have hj : 8 = j := by omega
        subst hj
        have hP : va_P (dC, dI) classes (wM b d cd w2 ms2 n2 (swI ks2 x y 8) (vp_updL (vp_updL ct2 x (ct2 y)) y (ct2 x)) (swL sm2 x y 8) (swL le2 x y 8) (swL gr2 x y 8) fk2 fa2) H := hP
        have hD : va_D A (wM b d cd w2 ms2 n2 (swI ks2 x y 8) (vp_updL (vp_updL ct2 x (ct2 y)) y (ct2 x)) (swL sm2 x y 8) (swL le2 x y 8) (swL gr2 x y 8) fk2 fa2) := hD
        exact W.vret hx hb hr (fun t9 ht9 hW9 => ⟨⟨(), rfl, trivial, by rw [ht9]; exact hP, va_K.moved hW9.alike hK, hD⟩, hS.F ht9⟩) hS.2.2 dM_swap_188
      · skip
        exact absurd (nI_le (by omega) (by omega)) h1
    | succ kk ih =>
      intro j hj H locs hP hD hS ls hl
      refine lv_iload hx hb dM_swap_29 (lv_at hl 0 rfl) ?_
      refine lv_bipush (v := 8) hx hb dM_swap_31 (by decide) ?_
      refine gi_as (y := nI 8) (rfl) ?_
      refine lv_icmp_ge (tgt := 188) hx hb dM_swap_33 (by decide) (fun h1 => ?_) (fun h1 => ?_)
      · skip
        exact absurd h1 (nI_ge (a := j) (by omega) (by omega))
      · skip
        refine lv_bipush (v := 8) hx hb dM_swap_36 (by decide) ?_
        refine lv_iload_n hx hb dM_swap_38 rfl (lv_at hl 2 rfl) ?_
        refine lv_imul hx hb dM_swap_39 ?_
        refine gi_as (y := nI (8 * x)) (gi_8mul _) ?_
        refine lv_iload hx hb dM_swap_40 (lv_at hl 0 rfl) ?_
        refine lv_iadd hx hb dM_swap_42 ?_
        refine gi_as (y := nI ((8 * x) + j)) (nI_add _ _) ?_
        refine lv_istore (lv' := [(6, .int (nI ((8 * x) + j))), (5, .int (nI j)), (0, .ref (b 0)), (1, .int (nI x)), (2, .int (nI y))]) hx hb dM_swap_43 hl (by decide) rfl (fun ls hl => ?_)
        refine lv_bipush (v := 8) hx hb dM_swap_45 (by decide) ?_
        refine lv_iload_n hx hb dM_swap_47 rfl (lv_at hl 4 rfl) ?_
        refine lv_imul hx hb dM_swap_48 ?_
        refine gi_as (y := nI (8 * y)) (gi_8mul _) ?_
        refine lv_iload hx hb dM_swap_49 (lv_at hl 1 rfl) ?_
        refine lv_iadd hx hb dM_swap_51 ?_
        refine gi_as (y := nI ((8 * y) + j)) (nI_add _ _) ?_
        refine lv_istore (lv' := [(7, .int (nI ((8 * y) + j))), (6, .int (nI ((8 * x) + j))), (5, .int (nI j)), (0, .ref (b 0)), (1, .int (nI x)), (2, .int (nI y))]) hx hb dM_swap_52 hl (by decide) rfl (fun ls hl => ?_)
        refine lv_aload_n hx hb dM_swap_54 rfl (lv_at hl 3 rfl) ?_
        refine va_get (D := (dC, dI)) (ci := 1) (v := .ref (b 1)) (C := "GroupRowsModel") (T := FM) (N := 11) hx hb hta inM hown hK hP 0 rfl rfl 4 (by decide) (hta _ w282) (fun _ h9 => h9) rfl dM_swap_55 ?_
        refine lv_iload hx hb dM_swap_58 (lv_at hl 1 rfl) ?_
        refine gi_iald hx hb hK hP 1 0 rfl rfl (k := ((8 * x) + j)) (by omega) (by decide) dM_swap_60 ?_
        refine lv_istore (lv' := [(8, .int ((swI ks2 x y j) ((8 * x) + j))), (7, .int (nI ((8 * y) + j))), (6, .int (nI ((8 * x) + j))), (5, .int (nI j)), (0, .ref (b 0)), (1, .int (nI x)), (2, .int (nI y))]) hx hb dM_swap_61 hl (by decide) rfl (fun ls hl => ?_)
        refine lv_aload_n hx hb dM_swap_63 rfl (lv_at hl 4 rfl) ?_
        refine va_get (D := (dC, dI)) (ci := 1) (v := .ref (b 1)) (C := "GroupRowsModel") (T := FM) (N := 11) hx hb hta inM hown hK hP 0 rfl rfl 4 (by decide) (hta _ w282) (fun _ h9 => h9) rfl dM_swap_64 ?_
        refine lv_iload hx hb dM_swap_67 (lv_at hl 2 rfl) ?_
        refine lv_aload_n hx hb dM_swap_69 rfl (lv_at hl 4 rfl) ?_
        refine va_get (D := (dC, dI)) (ci := 1) (v := .ref (b 1)) (C := "GroupRowsModel") (T := FM) (N := 11) hx hb hta inM hown hK hP 0 rfl rfl 4 (by decide) (hta _ w282) (fun _ h9 => h9) rfl dM_swap_70 ?_
        refine lv_iload hx hb dM_swap_73 (lv_at hl 1 rfl) ?_
        refine gi_iald hx hb hK hP 1 0 rfl rfl (k := ((8 * y) + j)) (by omega) (by decide) dM_swap_75 ?_
        refine gi_iast hx hb hK hP hD hS 1 0 rfl rfl (k := ((8 * x) + j)) (by omega) (by decide) dM_swap_76 (fun H locs hP hD hS => ?_)
        have hP : va_P (dC, dI) classes (wM b d cd w2 ms2 n2 (upd (swI ks2 x y j) ((8 * x) + j) ((swI ks2 x y j) ((8 * y) + j))) (vp_updL (vp_updL ct2 x (ct2 y)) y (ct2 x)) (swL sm2 x y j) (swL le2 x y j) (swL gr2 x y j) fk2 fa2) H := hP
        have hD : va_D A (wM b d cd w2 ms2 n2 (upd (swI ks2 x y j) ((8 * x) + j) ((swI ks2 x y j) ((8 * y) + j))) (vp_updL (vp_updL ct2 x (ct2 y)) y (ct2 x)) (swL sm2 x y j) (swL le2 x y j) (swL gr2 x y j) fk2 fa2) := hD
        refine lv_aload_n hx hb dM_swap_77 rfl (lv_at hl 4 rfl) ?_
        refine va_get (D := (dC, dI)) (ci := 1) (v := .ref (b 1)) (C := "GroupRowsModel") (T := FM) (N := 11) hx hb hta inM hown hK hP 0 rfl rfl 4 (by decide) (hta _ w282) (fun _ h9 => h9) rfl dM_swap_78 ?_
        refine lv_iload hx hb dM_swap_81 (lv_at hl 1 rfl) ?_
        refine lv_iload hx hb dM_swap_83 (lv_at hl 0 rfl) ?_
        refine gi_iast hx hb hK hP hD hS 1 0 rfl rfl (k := ((8 * y) + j)) (by omega) (by decide) dM_swap_85 (fun H locs hP hD hS => ?_)
        have hP : va_P (dC, dI) classes (wM b d cd w2 ms2 n2 (upd (upd (swI ks2 x y j) ((8 * x) + j) ((swI ks2 x y j) ((8 * y) + j))) ((8 * y) + j) ((swI ks2 x y j) ((8 * x) + j))) (vp_updL (vp_updL ct2 x (ct2 y)) y (ct2 x)) (swL sm2 x y j) (swL le2 x y j) (swL gr2 x y j) fk2 fa2) H := hP
        have hD : va_D A (wM b d cd w2 ms2 n2 (upd (upd (swI ks2 x y j) ((8 * x) + j) ((swI ks2 x y j) ((8 * y) + j))) ((8 * y) + j) ((swI ks2 x y j) ((8 * x) + j))) (vp_updL (vp_updL ct2 x (ct2 y)) y (ct2 x)) (swL sm2 x y j) (swL le2 x y j) (swL gr2 x y j) fk2 fa2) := hD
        refine lv_aload_n hx hb dM_swap_86 rfl (lv_at hl 4 rfl) ?_
        refine va_get (D := (dC, dI)) (ci := 1) (v := .ref (b 3)) (C := "GroupRowsModel") (T := FM) (N := 11) hx hb hta inM hown hK hP 0 rfl rfl 6 (by decide) (hta _ w284) (fun _ h9 => h9) rfl dM_swap_87 ?_
        refine lv_iload hx hb dM_swap_90 (lv_at hl 2 rfl) ?_
        refine gi_lald hx hb hK hP 3 2 rfl rfl (k := ((8 * x) + j)) (by omega) (by decide) dM_swap_92 ?_
        refine lv_lstore (lv' := [(9, .long ((swL sm2 x y j) ((8 * x) + j))), (8, .int ((swI ks2 x y j) ((8 * x) + j))), (7, .int (nI ((8 * y) + j))), (6, .int (nI ((8 * x) + j))), (5, .int (nI j)), (0, .ref (b 0)), (1, .int (nI x)), (2, .int (nI y))]) hx hb dM_swap_93 hl (by decide) rfl (fun ls hl => ?_)
        refine lv_aload_n hx hb dM_swap_95 rfl (lv_at hl 5 rfl) ?_
        refine va_get (D := (dC, dI)) (ci := 1) (v := .ref (b 3)) (C := "GroupRowsModel") (T := FM) (N := 11) hx hb hta inM hown hK hP 0 rfl rfl 6 (by decide) (hta _ w284) (fun _ h9 => h9) rfl dM_swap_96 ?_
        refine lv_iload hx hb dM_swap_99 (lv_at hl 3 rfl) ?_
        refine lv_aload_n hx hb dM_swap_101 rfl (lv_at hl 5 rfl) ?_
        refine va_get (D := (dC, dI)) (ci := 1) (v := .ref (b 3)) (C := "GroupRowsModel") (T := FM) (N := 11) hx hb hta inM hown hK hP 0 rfl rfl 6 (by decide) (hta _ w284) (fun _ h9 => h9) rfl dM_swap_102 ?_
        refine lv_iload hx hb dM_swap_105 (lv_at hl 2 rfl) ?_
        refine gi_lald hx hb hK hP 3 2 rfl rfl (k := ((8 * y) + j)) (by omega) (by decide) dM_swap_107 ?_
        refine gi_last hx hb hK hP hD hS 3 2 rfl rfl (k := ((8 * x) + j)) (by omega) (by decide) dM_swap_108 (fun H locs hP hD hS => ?_)
        have hP : va_P (dC, dI) classes (wM b d cd w2 ms2 n2 (upd (upd (swI ks2 x y j) ((8 * x) + j) ((swI ks2 x y j) ((8 * y) + j))) ((8 * y) + j) ((swI ks2 x y j) ((8 * x) + j))) (vp_updL (vp_updL ct2 x (ct2 y)) y (ct2 x)) (vp_updL (swL sm2 x y j) ((8 * x) + j) ((swL sm2 x y j) ((8 * y) + j))) (swL le2 x y j) (swL gr2 x y j) fk2 fa2) H := hP
        have hD : va_D A (wM b d cd w2 ms2 n2 (upd (upd (swI ks2 x y j) ((8 * x) + j) ((swI ks2 x y j) ((8 * y) + j))) ((8 * y) + j) ((swI ks2 x y j) ((8 * x) + j))) (vp_updL (vp_updL ct2 x (ct2 y)) y (ct2 x)) (vp_updL (swL sm2 x y j) ((8 * x) + j) ((swL sm2 x y j) ((8 * y) + j))) (swL le2 x y j) (swL gr2 x y j) fk2 fa2) := hD
        refine lv_aload_n hx hb dM_swap_109 rfl (lv_at hl 5 rfl) ?_
        refine va_get (D := (dC, dI)) (ci := 1) (v := .ref (b 3)) (C := "GroupRowsModel") (T := FM) (N := 11) hx hb hta inM hown hK hP 0 rfl rfl 6 (by decide) (hta _ w284) (fun _ h9 => h9) rfl dM_swap_110 ?_
        refine lv_iload hx hb dM_swap_113 (lv_at hl 2 rfl) ?_
        refine lv_lload hx hb dM_swap_115 (lv_at hl 0 rfl) ?_
        refine gi_last hx hb hK hP hD hS 3 2 rfl rfl (k := ((8 * y) + j)) (by omega) (by decide) dM_swap_117 (fun H locs hP hD hS => ?_)
        have hP : va_P (dC, dI) classes (wM b d cd w2 ms2 n2 (upd (upd (swI ks2 x y j) ((8 * x) + j) ((swI ks2 x y j) ((8 * y) + j))) ((8 * y) + j) ((swI ks2 x y j) ((8 * x) + j))) (vp_updL (vp_updL ct2 x (ct2 y)) y (ct2 x)) (vp_updL (vp_updL (swL sm2 x y j) ((8 * x) + j) ((swL sm2 x y j) ((8 * y) + j))) ((8 * y) + j) ((swL sm2 x y j) ((8 * x) + j))) (swL le2 x y j) (swL gr2 x y j) fk2 fa2) H := hP
        have hD : va_D A (wM b d cd w2 ms2 n2 (upd (upd (swI ks2 x y j) ((8 * x) + j) ((swI ks2 x y j) ((8 * y) + j))) ((8 * y) + j) ((swI ks2 x y j) ((8 * x) + j))) (vp_updL (vp_updL ct2 x (ct2 y)) y (ct2 x)) (vp_updL (vp_updL (swL sm2 x y j) ((8 * x) + j) ((swL sm2 x y j) ((8 * y) + j))) ((8 * y) + j) ((swL sm2 x y j) ((8 * x) + j))) (swL le2 x y j) (swL gr2 x y j) fk2 fa2) := hD
        refine lv_aload_n hx hb dM_swap_118 rfl (lv_at hl 5 rfl) ?_
        refine va_get (D := (dC, dI)) (ci := 1) (v := .ref (b 4)) (C := "GroupRowsModel") (T := FM) (N := 11) hx hb hta inM hown hK hP 0 rfl rfl 7 (by decide) (hta _ w285) (fun _ h9 => h9) rfl dM_swap_119 ?_
        refine lv_iload hx hb dM_swap_122 (lv_at hl 3 rfl) ?_
        refine gi_lald hx hb hK hP 4 3 rfl rfl (k := ((8 * x) + j)) (by omega) (by decide) dM_swap_124 ?_
        refine lv_lstore (lv' := [(11, .long ((swL le2 x y j) ((8 * x) + j))), (9, .long ((swL sm2 x y j) ((8 * x) + j))), (8, .int ((swI ks2 x y j) ((8 * x) + j))), (7, .int (nI ((8 * y) + j))), (6, .int (nI ((8 * x) + j))), (5, .int (nI j)), (0, .ref (b 0)), (1, .int (nI x)), (2, .int (nI y))]) hx hb dM_swap_125 hl (by decide) rfl (fun ls hl => ?_)
        refine lv_aload_n hx hb dM_swap_127 rfl (lv_at hl 6 rfl) ?_
        refine va_get (D := (dC, dI)) (ci := 1) (v := .ref (b 4)) (C := "GroupRowsModel") (T := FM) (N := 11) hx hb hta inM hown hK hP 0 rfl rfl 7 (by decide) (hta _ w285) (fun _ h9 => h9) rfl dM_swap_128 ?_
        refine lv_iload hx hb dM_swap_131 (lv_at hl 4 rfl) ?_
        refine lv_aload_n hx hb dM_swap_133 rfl (lv_at hl 6 rfl) ?_
        refine va_get (D := (dC, dI)) (ci := 1) (v := .ref (b 4)) (C := "GroupRowsModel") (T := FM) (N := 11) hx hb hta inM hown hK hP 0 rfl rfl 7 (by decide) (hta _ w285) (fun _ h9 => h9) rfl dM_swap_134 ?_
        refine lv_iload hx hb dM_swap_137 (lv_at hl 3 rfl) ?_
        refine gi_lald hx hb hK hP 4 3 rfl rfl (k := ((8 * y) + j)) (by omega) (by decide) dM_swap_139 ?_
        refine gi_last hx hb hK hP hD hS 4 3 rfl rfl (k := ((8 * x) + j)) (by omega) (by decide) dM_swap_140 (fun H locs hP hD hS => ?_)
        have hP : va_P (dC, dI) classes (wM b d cd w2 ms2 n2 (upd (upd (swI ks2 x y j) ((8 * x) + j) ((swI ks2 x y j) ((8 * y) + j))) ((8 * y) + j) ((swI ks2 x y j) ((8 * x) + j))) (vp_updL (vp_updL ct2 x (ct2 y)) y (ct2 x)) (vp_updL (vp_updL (swL sm2 x y j) ((8 * x) + j) ((swL sm2 x y j) ((8 * y) + j))) ((8 * y) + j) ((swL sm2 x y j) ((8 * x) + j))) (vp_updL (swL le2 x y j) ((8 * x) + j) ((swL le2 x y j) ((8 * y) + j))) (swL gr2 x y j) fk2 fa2) H := hP
        have hD : va_D A (wM b d cd w2 ms2 n2 (upd (upd (swI ks2 x y j) ((8 * x) + j) ((swI ks2 x y j) ((8 * y) + j))) ((8 * y) + j) ((swI ks2 x y j) ((8 * x) + j))) (vp_updL (vp_updL ct2 x (ct2 y)) y (ct2 x)) (vp_updL (vp_updL (swL sm2 x y j) ((8 * x) + j) ((swL sm2 x y j) ((8 * y) + j))) ((8 * y) + j) ((swL sm2 x y j) ((8 * x) + j))) (vp_updL (swL le2 x y j) ((8 * x) + j) ((swL le2 x y j) ((8 * y) + j))) (swL gr2 x y j) fk2 fa2) := hD
        refine lv_aload_n hx hb dM_swap_141 rfl (lv_at hl 6 rfl) ?_
        refine va_get (D := (dC, dI)) (ci := 1) (v := .ref (b 4)) (C := "GroupRowsModel") (T := FM) (N := 11) hx hb hta inM hown hK hP 0 rfl rfl 7 (by decide) (hta _ w285) (fun _ h9 => h9) rfl dM_swap_142 ?_
        refine lv_iload hx hb dM_swap_145 (lv_at hl 3 rfl) ?_
        refine lv_lload hx hb dM_swap_147 (lv_at hl 0 rfl) ?_
        refine gi_last hx hb hK hP hD hS 4 3 rfl rfl (k := ((8 * y) + j)) (by omega) (by decide) dM_swap_149 (fun H locs hP hD hS => ?_)
        have hP : va_P (dC, dI) classes (wM b d cd w2 ms2 n2 (upd (upd (swI ks2 x y j) ((8 * x) + j) ((swI ks2 x y j) ((8 * y) + j))) ((8 * y) + j) ((swI ks2 x y j) ((8 * x) + j))) (vp_updL (vp_updL ct2 x (ct2 y)) y (ct2 x)) (vp_updL (vp_updL (swL sm2 x y j) ((8 * x) + j) ((swL sm2 x y j) ((8 * y) + j))) ((8 * y) + j) ((swL sm2 x y j) ((8 * x) + j))) (vp_updL (vp_updL (swL le2 x y j) ((8 * x) + j) ((swL le2 x y j) ((8 * y) + j))) ((8 * y) + j) ((swL le2 x y j) ((8 * x) + j))) (swL gr2 x y j) fk2 fa2) H := hP
        have hD : va_D A (wM b d cd w2 ms2 n2 (upd (upd (swI ks2 x y j) ((8 * x) + j) ((swI ks2 x y j) ((8 * y) + j))) ((8 * y) + j) ((swI ks2 x y j) ((8 * x) + j))) (vp_updL (vp_updL ct2 x (ct2 y)) y (ct2 x)) (vp_updL (vp_updL (swL sm2 x y j) ((8 * x) + j) ((swL sm2 x y j) ((8 * y) + j))) ((8 * y) + j) ((swL sm2 x y j) ((8 * x) + j))) (vp_updL (vp_updL (swL le2 x y j) ((8 * x) + j) ((swL le2 x y j) ((8 * y) + j))) ((8 * y) + j) ((swL le2 x y j) ((8 * x) + j))) (swL gr2 x y j) fk2 fa2) := hD
        refine lv_aload_n hx hb dM_swap_150 rfl (lv_at hl 6 rfl) ?_
        refine va_get (D := (dC, dI)) (ci := 1) (v := .ref (b 5)) (C := "GroupRowsModel") (T := FM) (N := 11) hx hb hta inM hown hK hP 0 rfl rfl 8 (by decide) (hta _ w286) (fun _ h9 => h9) rfl dM_swap_151 ?_
        refine lv_iload hx hb dM_swap_154 (lv_at hl 4 rfl) ?_
        refine gi_lald hx hb hK hP 5 4 rfl rfl (k := ((8 * x) + j)) (by omega) (by decide) dM_swap_156 ?_
        refine lv_lstore (lv' := [(13, .long ((swL gr2 x y j) ((8 * x) + j))), (11, .long ((swL le2 x y j) ((8 * x) + j))), (9, .long ((swL sm2 x y j) ((8 * x) + j))), (8, .int ((swI ks2 x y j) ((8 * x) + j))), (7, .int (nI ((8 * y) + j))), (6, .int (nI ((8 * x) + j))), (5, .int (nI j)), (0, .ref (b 0)), (1, .int (nI x)), (2, .int (nI y))]) hx hb dM_swap_157 hl (by decide) rfl (fun ls hl => ?_)
        refine lv_aload_n hx hb dM_swap_159 rfl (lv_at hl 7 rfl) ?_
        refine va_get (D := (dC, dI)) (ci := 1) (v := .ref (b 5)) (C := "GroupRowsModel") (T := FM) (N := 11) hx hb hta inM hown hK hP 0 rfl rfl 8 (by decide) (hta _ w286) (fun _ h9 => h9) rfl dM_swap_160 ?_
        refine lv_iload hx hb dM_swap_163 (lv_at hl 5 rfl) ?_
        refine lv_aload_n hx hb dM_swap_165 rfl (lv_at hl 7 rfl) ?_
        refine va_get (D := (dC, dI)) (ci := 1) (v := .ref (b 5)) (C := "GroupRowsModel") (T := FM) (N := 11) hx hb hta inM hown hK hP 0 rfl rfl 8 (by decide) (hta _ w286) (fun _ h9 => h9) rfl dM_swap_166 ?_
        refine lv_iload hx hb dM_swap_169 (lv_at hl 4 rfl) ?_
        refine gi_lald hx hb hK hP 5 4 rfl rfl (k := ((8 * y) + j)) (by omega) (by decide) dM_swap_171 ?_
        refine gi_last hx hb hK hP hD hS 5 4 rfl rfl (k := ((8 * x) + j)) (by omega) (by decide) dM_swap_172 (fun H locs hP hD hS => ?_)
        have hP : va_P (dC, dI) classes (wM b d cd w2 ms2 n2 (upd (upd (swI ks2 x y j) ((8 * x) + j) ((swI ks2 x y j) ((8 * y) + j))) ((8 * y) + j) ((swI ks2 x y j) ((8 * x) + j))) (vp_updL (vp_updL ct2 x (ct2 y)) y (ct2 x)) (vp_updL (vp_updL (swL sm2 x y j) ((8 * x) + j) ((swL sm2 x y j) ((8 * y) + j))) ((8 * y) + j) ((swL sm2 x y j) ((8 * x) + j))) (vp_updL (vp_updL (swL le2 x y j) ((8 * x) + j) ((swL le2 x y j) ((8 * y) + j))) ((8 * y) + j) ((swL le2 x y j) ((8 * x) + j))) (vp_updL (swL gr2 x y j) ((8 * x) + j) ((swL gr2 x y j) ((8 * y) + j))) fk2 fa2) H := hP
        have hD : va_D A (wM b d cd w2 ms2 n2 (upd (upd (swI ks2 x y j) ((8 * x) + j) ((swI ks2 x y j) ((8 * y) + j))) ((8 * y) + j) ((swI ks2 x y j) ((8 * x) + j))) (vp_updL (vp_updL ct2 x (ct2 y)) y (ct2 x)) (vp_updL (vp_updL (swL sm2 x y j) ((8 * x) + j) ((swL sm2 x y j) ((8 * y) + j))) ((8 * y) + j) ((swL sm2 x y j) ((8 * x) + j))) (vp_updL (vp_updL (swL le2 x y j) ((8 * x) + j) ((swL le2 x y j) ((8 * y) + j))) ((8 * y) + j) ((swL le2 x y j) ((8 * x) + j))) (vp_updL (swL gr2 x y j) ((8 * x) + j) ((swL gr2 x y j) ((8 * y) + j))) fk2 fa2) := hD
        refine lv_aload_n hx hb dM_swap_173 rfl (lv_at hl 7 rfl) ?_
        refine va_get (D := (dC, dI)) (ci := 1) (v := .ref (b 5)) (C := "GroupRowsModel") (T := FM) (N := 11) hx hb hta inM hown hK hP 0 rfl rfl 8 (by decide) (hta _ w286) (fun _ h9 => h9) rfl dM_swap_174 ?_
        refine lv_iload hx hb dM_swap_177 (lv_at hl 4 rfl) ?_
        refine lv_lload hx hb dM_swap_179 (lv_at hl 0 rfl) ?_
        refine gi_last hx hb hK hP hD hS 5 4 rfl rfl (k := ((8 * y) + j)) (by omega) (by decide) dM_swap_181 (fun H locs hP hD hS => ?_)
        have hP : va_P (dC, dI) classes (wM b d cd w2 ms2 n2 (upd (upd (swI ks2 x y j) ((8 * x) + j) ((swI ks2 x y j) ((8 * y) + j))) ((8 * y) + j) ((swI ks2 x y j) ((8 * x) + j))) (vp_updL (vp_updL ct2 x (ct2 y)) y (ct2 x)) (vp_updL (vp_updL (swL sm2 x y j) ((8 * x) + j) ((swL sm2 x y j) ((8 * y) + j))) ((8 * y) + j) ((swL sm2 x y j) ((8 * x) + j))) (vp_updL (vp_updL (swL le2 x y j) ((8 * x) + j) ((swL le2 x y j) ((8 * y) + j))) ((8 * y) + j) ((swL le2 x y j) ((8 * x) + j))) (vp_updL (vp_updL (swL gr2 x y j) ((8 * x) + j) ((swL gr2 x y j) ((8 * y) + j))) ((8 * y) + j) ((swL gr2 x y j) ((8 * x) + j))) fk2 fa2) H := hP
        have hD : va_D A (wM b d cd w2 ms2 n2 (upd (upd (swI ks2 x y j) ((8 * x) + j) ((swI ks2 x y j) ((8 * y) + j))) ((8 * y) + j) ((swI ks2 x y j) ((8 * x) + j))) (vp_updL (vp_updL ct2 x (ct2 y)) y (ct2 x)) (vp_updL (vp_updL (swL sm2 x y j) ((8 * x) + j) ((swL sm2 x y j) ((8 * y) + j))) ((8 * y) + j) ((swL sm2 x y j) ((8 * x) + j))) (vp_updL (vp_updL (swL le2 x y j) ((8 * x) + j) ((swL le2 x y j) ((8 * y) + j))) ((8 * y) + j) ((swL le2 x y j) ((8 * x) + j))) (vp_updL (vp_updL (swL gr2 x y j) ((8 * x) + j) ((swL gr2 x y j) ((8 * y) + j))) ((8 * y) + j) ((swL gr2 x y j) ((8 * x) + j))) fk2 fa2) := hD
        refine lv_iinc (v := (nI (j + 1))) (lv' := [(5, .int (nI (j + 1))), (13, .long ((swL gr2 x y j) ((8 * x) + j))), (11, .long ((swL le2 x y j) ((8 * x) + j))), (9, .long ((swL sm2 x y j) ((8 * x) + j))), (8, .int ((swI ks2 x y j) ((8 * x) + j))), (7, .int (nI ((8 * y) + j))), (6, .int (nI ((8 * x) + j))), (0, .ref (b 0)), (1, .int (nI x)), (2, .int (nI y))]) hx hb dM_swap_182 hl (k := 6) rfl (nI_1 _) (by decide) rfl (fun ls hl => ?_)
        refine lv_goto (tgt := 29) hx hb dM_swap_185 (by decide) ?_
        have hl := lv_sub hl [0, 7, 8, 9] rfl
        have hl : lv_has ls 15 [(5, .int (nI (j + 1))), (0, .ref (b 0)), (1, .int (nI x)), (2, .int (nI y))] := hl
        exact ih (j + 1) (by omega) H locs hP hD hS ls hl
  have hl := lv_sub hl [0, 2, 3, 4] rfl
  have hl : lv_has ls 15 [(5, .int (nI 0)), (0, .ref (b 0)), (1, .int (nI x)), (2, .int (nI y))] := hl
  exact loop 8 0 (by omega) H locs hP hD hS ls hl
set_option maxHeartbeats 4000000 in
set_option maxRecDepth 100000 in
/-- sort -/
theorem c_sort (l : Launch) (dC : Nat → ClassId) (dI : Nat → Nat → Nat) (b : Nat → Nat) (d : Nat → ClassId) (cd : Int32) (wn mn nn : Nat) (fk2 : Nat → Int32) (fa2 : Nat → Int64) (ks2 : Nat → Int32) (ct2 sm2 le2 gr2 : Nat → Int64) (pN : Nat) (Kr : Nat → Nat → Int32) (C : Nat → Int64) (S L G : Nat → Nat → Int64) (hwn : wn ≤ 8) (hmn : mn ≤ 8) (hnn : nn ≤ 1000) (hg : grp wn mn pN Kr C S L G nn (fun j i => ks2 (8 * j + i)) (fun j => ct2 j) (fun j m => sm2 (8 * j + m)) (fun j m => le2 (8 * j + m)) (fun j m => gr2 (8 * j + m))) (sz : Nat)  : Met l yM_sort (Cond.code yM_sort bM_sort 4 none :: wAll) { frames := 1, cells := 0, slots := 0, locals := 64 } (va_Pc [.ref (b 0)] (fun U => U.heap.size = sz ∧ va_P (dC, dI) classes (wM b d cd (nI wn) (nI mn) (nI nn) ks2 ct2 sm2 le2 gr2 fk2 fa2) U.heap ∧ va_K (dC, dI) classes (kM d) U ∧ va_D (fun _ => True) (wM b d cd (nI wn) (nI mn) (nI nn) ks2 ct2 sm2 le2 gr2 fk2 fa2))) (va_Qv (fun _ : Unit => True) (fun (_ : Unit) (t9 : State) => ∃ (ks1 : Nat → Int32) (ct1 sm1 le1 gr1 : Nat → Int64), (srt wn nn (fun j i => ks1 (8 * j + i)) ∧ grp wn mn pN Kr C S L G nn (fun j i => ks1 (8 * j + i)) (fun j => ct1 j) (fun j m => sm1 (8 * j + m)) (fun j m => le1 (8 * j + m)) (fun j m => gr1 (8 * j + m))) ∧ va_P (dC, dI) classes (wM b d cd (nI wn) (nI mn) (nI nn) ks1 ct1 sm1 le1 gr1 fk2 fa2) t9.heap ∧ va_K (dC, dI) classes (kM d) t9 ∧ va_D (va_A (wM b d cd (nI wn) (nI mn) (nI nn) ks2 ct2 sm2 le2 gr2 fk2 fa2) sz) (wM b d cd (nI wn) (nI mn) (nI nn) ks1 ct1 sm1 le1 gr1 fk2 fa2)) (va_A (wM b d cd (nI wn) (nI mn) (nI nn) ks2 ct2 sm2 le2 gr2 fk2 fa2) sz)) 0 0 (va_A (wM b d cd (nI wn) (nI mn) (nI nn) ks2 ct2 sm2 le2 gr2 fk2 fa2) sz) := by
  refine Met.ofW (cc := bM_sort) (maxL := 4) (ret := none) (by decide) rfl ?_
  intro p e s m args below meth c s₁ B hml hv
  obtain ⟨rfl, hsz, hP, hK, hD0⟩ := hv
  have hx := B.exec
  have hb := B.bytes
  have hr := B.returns
  have hta : ∀ w ∈ wAll, w.before ([.ref (b 0)] : List Value).toArray s = true := fun w h => atoms_spec (ws := (Cond.code yM_sort bM_sort 4 none :: wAll)) B.pre w (List.mem_cons_of_mem _ h)
  have hown : s.vm.findClass "GroupRowsModel" = some m.cls := findClass_of_methodNamed B.named
  have hlocks := B.notSynchronized
  subst hsz
  have hD := hD0.self (sz := s.heap.size)
  generalize hAe : va_A (wM b d cd (nI wn) (nI mn) (nI nn) ks2 ct2 sm2 le2 gr2 fk2 fa2) s.heap.size = A at hD ⊢
  have hA : ∀ q : Nat, s.heap.size ≤ q → A q := fun q h => by rw [← hAe]; exact Or.inr h
  have hS : va_S A s.heap s.heap [] := va_S.rf
  have hP : va_P (dC, dI) classes (wM b d cd (nI wn) (nI mn) (nI nn) ks2 ct2 sm2 le2 gr2 fk2 fa2) s.heap := hP
  have hl := lv_entry ([.ref (b 0)]) (n := 4) (Nat.le_of_ble_eq_true rfl)
  rw [lg_entry_eq]
  generalize (lg_sl ([.ref (b 0)]) ++ List.replicate (4 - (lg_sl ([.ref (b 0)])).length) Slot.unset).toArray = ls at hl ⊢
  have hl : lv_has ls 4 [(0, .ref (b 0))] := hl
  refine lv_iconst (v := 0) hx hb dM_sort_0 (by decide) ?_
  refine gi_as (y := nI 0) (nI_0.symm) ?_
  refine lv_istore_n (lv' := [(1, .int (nI 0)), (0, .ref (b 0))]) hx hb dM_sort_1 rfl hl (by decide) rfl (fun ls hl => ?_)
  have loop : ∀ (kk q : Nat) (ks1 : Nat → Int32) (ct1 sm1 le1 gr1 : Nat → Int64), q + kk = nn → srtI wn nn q (fun j i => ks1 (8 * j + i)) → grp wn mn pN Kr C S L G nn (fun j i => ks1 (8 * j + i)) (fun j => ct1 j) (fun j m => sm1 (8 * j + m)) (fun j m => le1 (8 * j + m)) (fun j m => gr1 (8 * j + m)) → ∀ (H : Heap) (locs : List Loc), va_P (dC, dI) classes (wM b d cd (nI wn) (nI mn) (nI nn) ks1 ct1 sm1 le1 gr1 fk2 fa2) H → va_D A (wM b d cd (nI wn) (nI mn) (nI nn) ks1 ct1 sm1 le1 gr1 fk2 fa2) → va_S A s.heap H locs → ∀ (ls : Array Slot), lv_has ls 4 [(1, .int (nI q)), (0, .ref (b 0))] → W p l e (headSpec (Cond.code yM_sort bM_sort 4 none :: wAll) { frames := 1, cells := 0, slots := 0, locals := 64 }).room s m ([.ref (b 0)] : List Value).toArray below meth c H locs 0 0 (MQ below (va_Qv (fun _ : Unit => True) (fun (_ : Unit) (t9 : State) => ∃ (ks1 : Nat → Int32) (ct1 sm1 le1 gr1 : Nat → Int64), (srt wn nn (fun j i => ks1 (8 * j + i)) ∧ grp wn mn pN Kr C S L G nn (fun j i => ks1 (8 * j + i)) (fun j => ct1 j) (fun j m => sm1 (8 * j + m)) (fun j m => le1 (8 * j + m)) (fun j m => gr1 (8 * j + m))) ∧ va_P (dC, dI) classes (wM b d cd (nI wn) (nI mn) (nI nn) ks1 ct1 sm1 le1 gr1 fk2 fa2) t9.heap ∧ va_K (dC, dI) classes (kM d) t9 ∧ va_D A (wM b d cd (nI wn) (nI mn) (nI nn) ks1 ct1 sm1 le1 gr1 fk2 fa2)) A) ([.ref (b 0)] : List Value).toArray s 0 0 A) (F0 m 2 ls []) := by
    intro kk
    induction kk with
    | zero =>
      intro q ks1 ct1 sm1 le1 gr1 hq hsI hg1 H locs hP hD hS ls hl
      refine lv_iload_n hx hb dM_sort_2 rfl (lv_at hl 0 rfl) ?_
      refine lv_aload_n hx hb dM_sort_3 rfl (lv_at hl 1 rfl) ?_
      refine va_get (D := (dC, dI)) (ci := 1) (v := .int (nI nn)) (C := "GroupRowsModel") (T := FM) (N := 11) hx hb hta inM hown hK hP 0 rfl rfl 3 (by decide) (hta _ w281) (fun _ h9 => h9) rfl dM_sort_4 ?_
      refine lv_icmp_ge (tgt := 62) hx hb dM_sort_7 (by decide) (fun h1 => ?_) (fun h1 => ?_)
      · skip
        have hsr : srt wn nn (fun j i => ks1 (8 * j + i)) := fun p p2 z1 z2 => hsI p p2 z1 z2 (by omega)
        exact W.vret hx hb hr (fun t9 ht9 hW9 => ⟨⟨(), rfl, trivial, ⟨ks1, ct1, sm1, le1, gr1, ⟨hsr, hg1⟩, by rw [ht9]; exact hP, va_K.moved hW9.alike hK, hD⟩⟩, hS.F ht9⟩) hS.2.2 dM_sort_62
      · skip
        exact absurd (nI_le (by omega) (by omega)) h1
    | succ kk ih =>
      intro q ks1 ct1 sm1 le1 gr1 hq hsI hg1 H locs hP hD hS ls hl
      refine lv_iload_n hx hb dM_sort_2 rfl (lv_at hl 0 rfl) ?_
      refine lv_aload_n hx hb dM_sort_3 rfl (lv_at hl 1 rfl) ?_
      refine va_get (D := (dC, dI)) (ci := 1) (v := .int (nI nn)) (C := "GroupRowsModel") (T := FM) (N := 11) hx hb hta inM hown hK hP 0 rfl rfl 3 (by decide) (hta _ w281) (fun _ h9 => h9) rfl dM_sort_4 ?_
      refine lv_icmp_ge (tgt := 62) hx hb dM_sort_7 (by decide) (fun h1 => ?_) (fun h1 => ?_)
      · skip
        exact absurd h1 (nI_ge (a := q) (by omega) (by omega))
      · skip
        refine lv_iload_n hx hb dM_sort_10 rfl (lv_at hl 0 rfl) ?_
        refine lv_istore_n (lv' := [(2, .int (nI q)), (1, .int (nI q)), (0, .ref (b 0))]) hx hb dM_sort_11 rfl hl (by decide) rfl (fun ls hl => ?_)
        refine lv_iload_n hx hb dM_sort_12 rfl (lv_at hl 1 rfl) ?_
        refine lv_iconst (v := 1) hx hb dM_sort_13 (by decide) ?_
        refine lv_iadd hx hb dM_sort_14 ?_
        refine gi_as (y := nI (q + 1)) (nI_1 _) ?_
        refine lv_istore_n (lv' := [(3, .int (nI (q + 1))), (2, .int (nI q)), (1, .int (nI q)), (0, .ref (b 0))]) hx hb dM_sort_15 rfl hl (by decide) rfl (fun ls hl => ?_)
        have inn : ∀ (k2 k9 y : Nat), k9 + k2 = nn → q ≤ y → y < k9 → (∀ j, q ≤ j → j < k9 → ¬ klt wn (fun i => ks1 (8 * j + i)) (fun i => ks1 (8 * y + i))) → ∀ (ls : Array Slot), lv_has ls 4 [(3, .int (nI k9)), (2, .int (nI y)), (1, .int (nI q)), (0, .ref (b 0))] → W p l e (headSpec (Cond.code yM_sort bM_sort 4 none :: wAll) { frames := 1, cells := 0, slots := 0, locals := 64 }).room s m ([.ref (b 0)] : List Value).toArray below meth c H locs 0 0 (MQ below (va_Qv (fun _ : Unit => True) (fun (_ : Unit) (t9 : State) => ∃ (ks1 : Nat → Int32) (ct1 sm1 le1 gr1 : Nat → Int64), (srt wn nn (fun j i => ks1 (8 * j + i)) ∧ grp wn mn pN Kr C S L G nn (fun j i => ks1 (8 * j + i)) (fun j => ct1 j) (fun j m => sm1 (8 * j + m)) (fun j m => le1 (8 * j + m)) (fun j m => gr1 (8 * j + m))) ∧ va_P (dC, dI) classes (wM b d cd (nI wn) (nI mn) (nI nn) ks1 ct1 sm1 le1 gr1 fk2 fa2) t9.heap ∧ va_K (dC, dI) classes (kM d) t9 ∧ va_D A (wM b d cd (nI wn) (nI mn) (nI nn) ks1 ct1 sm1 le1 gr1 fk2 fa2)) A) ([.ref (b 0)] : List Value).toArray s 0 0 A) (F0 m 16 ls []) := by
          intro k2
          induction k2 with
          | zero =>
            intro k9 y hk9 hqy hyk hmin ls hl
            refine lv_iload_n hx hb dM_sort_16 rfl (lv_at hl 0 rfl) ?_
            refine lv_aload_n hx hb dM_sort_17 rfl (lv_at hl 3 rfl) ?_
            refine va_get (D := (dC, dI)) (ci := 1) (v := .int (nI nn)) (C := "GroupRowsModel") (T := FM) (N := 11) hx hb hta inM hown hK hP 0 rfl rfl 3 (by decide) (hta _ w281) (fun _ h9 => h9) rfl dM_sort_18 ?_
            refine lv_icmp_ge (tgt := 45) hx hb dM_sort_21 (by decide) (fun h2 => ?_) (fun h2 => ?_)
            · skip
              refine lv_iload_n hx hb dM_sort_45 rfl (lv_at hl 1 rfl) ?_
              refine lv_iload_n hx hb dM_sort_46 rfl (lv_at hl 2 rfl) ?_
              refine lv_icmp_eq (tgt := 56) hx hb dM_sort_47 (by decide) (fun h3 => ?_) (fun h3 => ?_)
              · skip
                have h3 : y = q := (nI_eq (by omega) (by omega)).mp h3
                subst h3
                refine lv_iinc (v := (nI (y + 1))) (lv' := [(1, .int (nI (y + 1))), (3, .int (nI k9)), (2, .int (nI y)), (0, .ref (b 0))]) hx hb dM_sort_56 hl (k := 2) rfl (nI_1 _) (by decide) rfl (fun ls hl => ?_)
                refine lv_goto (tgt := 2) hx hb dM_sort_59 (by decide) ?_
                have hl := lv_sub hl [0, 3] rfl
                have hl : lv_has ls 4 [(1, .int (nI (y + 1))), (0, .ref (b 0))] := hl
                exact ih (y + 1) ks1 ct1 sm1 le1 gr1 (by omega) (srtI_same hsI hg1.2.2.1 (fun j z1 z2 => hmin j z1 (by omega))) hg1 H locs hP hD hS ls hl
              · skip
                have h3 : q ≠ y := fun z => h3 (by rw [z])
                refine lv_aload_n hx hb dM_sort_50 rfl (lv_at hl 3 rfl) ?_
                refine lv_iload_n hx hb dM_sort_51 rfl (lv_at hl 2 rfl) ?_
                refine lv_iload_n hx hb dM_sort_52 rfl (lv_at hl 1 rfl) ?_
                have hPc := hP
                have hDc := hD
                have hKc := hK
                have hFc := va_free (wc := (wM b d cd (nI wn) (nI mn) (nI nn) ks1 ct1 sm1 le1 gr1 fk2 fa2)) hD hS hA [0, 1, 2, 3, 4, 5, 6, 7] rfl
                refine va_callv (va_runV (As := [.int (nI q), .int (nI y)]) (rest := []) ⟨hx, hb, hml, hown, hta⟩ (c_swap l dC dI b d cd (nI wn) (nI mn) (nI nn) ks1 ct1 sm1 le1 gr1 fk2 fa2 q y (by omega) (by omega) H.size) (cwV 2 hta (gV w370 w372 sM_swap w2 w373) rfl rfl rfl (by decide +kernel) ⟨Nat.le_of_ble_eq_true rfl, Nat.le_of_ble_eq_true rfl⟩) ⟨gb_W, va_recv hKc hPc (ci := 1) (q0 := 0) rfl rfl, fun U hU hW => ⟨rfl, by rw [hU], by rw [hU]; exact hPc, va_K.moved hW.alike hKc, hDc.weaken (fun _ _ _ _ => trivial)⟩⟩ rfl rfl hl.1 rfl (lv_room (Nat.le_of_ble_eq_true rfl)) dM_sort_53 ⟨Nat.le_of_ble_eq_true rfl, Nat.le_of_ble_eq_true rfl⟩) hS (fun q _ h => hFc q h) hFc (fun u t H1 locs ht hvm hw hB hz1 hk1 hS => ?_)
                obtain ⟨hP1, hK1, hD1⟩ := hB
                rw [ht] at hP1
                obtain ⟨hP, hD⟩ := va_join (wr := []) (w1 := (wM b d cd (nI wn) (nI mn) (nI nn) (swI ks1 q y 8) (vp_updL (vp_updL ct1 q (ct1 y)) y (ct1 q)) (swL sm1 q y 8) (swL le1 q y 8) (swL gr1 q y 8) fk2 fa2)) hP hD [0, 1, 2, 3, 4, 5, 6, 7] [] rfl rfl (by decide) (by decide) hk1 hFc hP1 hD1
                generalize H1 = H at hP hS ⊢
                have hP : va_P (dC, dI) classes (wM b d cd (nI wn) (nI mn) (nI nn) (swI ks1 q y 8) (vp_updL (vp_updL ct1 q (ct1 y)) y (ct1 q)) (swL sm1 q y 8) (swL le1 q y 8) (swL gr1 q y 8) fk2 fa2) H := hP
                have hD : va_D A (wM b d cd (nI wn) (nI mn) (nI nn) (swI ks1 q y 8) (vp_updL (vp_updL ct1 q (ct1 y)) y (ct1 q)) (swL sm1 q y 8) (swL le1 q y 8) (swL gr1 q y 8) fk2 fa2) := hD
                refine lv_iinc (v := (nI (q + 1))) (lv' := [(1, .int (nI (q + 1))), (3, .int (nI k9)), (2, .int (nI y)), (0, .ref (b 0))]) hx hb dM_sort_56 hl (k := 2) rfl (nI_1 _) (by decide) rfl (fun ls hl => ?_)
                refine lv_goto (tgt := 2) hx hb dM_sort_59 (by decide) ?_
                have hl := lv_sub hl [0, 3] rfl
                have hl : lv_has ls 4 [(1, .int (nI (q + 1))), (0, .ref (b 0))] := hl
                exact ih (q + 1) _ _ _ _ _ (by omega) (srtI_swap hsI (by omega) hqy (by omega) hg1.2.2.1 (fun j z1 z2 => hmin j z1 (by omega)) (fun j _ i hi => (swI_8 h3 (by omega)).symm))
                  (grp_perm (tsp_tsp q y) (fun j hj => tsp_lt (by omega) (by omega) hj) hg1 (fun j _ i hi => (swI_8 h3 (by omega)).symm) (fun j _ => swC h3 j) (fun j m _ hm => ⟨swL_8 h3 (by omega), swL_8 h3 (by omega), swL_8 h3 (by omega)⟩)) H locs hP hD hS ls hl
            · skip
              exact absurd (nI_le (by omega) (by omega)) h2
          | succ k2 ih2 =>
            intro k9 y hk9 hqy hyk hmin ls hl
            refine lv_iload_n hx hb dM_sort_16 rfl (lv_at hl 0 rfl) ?_
            refine lv_aload_n hx hb dM_sort_17 rfl (lv_at hl 3 rfl) ?_
            refine va_get (D := (dC, dI)) (ci := 1) (v := .int (nI nn)) (C := "GroupRowsModel") (T := FM) (N := 11) hx hb hta inM hown hK hP 0 rfl rfl 3 (by decide) (hta _ w281) (fun _ h9 => h9) rfl dM_sort_18 ?_
            refine lv_icmp_ge (tgt := 45) hx hb dM_sort_21 (by decide) (fun h2 => ?_) (fun h2 => ?_)
            · skip
              exact absurd h2 (nI_ge (a := k9) (by omega) (by omega))
            · skip
              refine lv_aload_n hx hb dM_sort_24 rfl (lv_at hl 3 rfl) ?_
              refine lv_iload_n hx hb dM_sort_25 rfl (lv_at hl 0 rfl) ?_
              refine lv_iload_n hx hb dM_sort_26 rfl (lv_at hl 1 rfl) ?_
              refine gi_callR (v := .int (lx (fun i => ks1 (8 * k9 + i)) (fun i => ks1 (8 * y + i)) wn 0)) (W.runV (As := [.int (nI k9), .int (nI y)]) (rest := []) ⟨hx, hb, hml, hown, hta⟩ (c_compared l dC dI b d wn cd (nI mn) (nI nn) ks1 ct1 sm1 le1 gr1 fk2 fa2 k9 y hwn (by omega) (by omega)) (cwV 2 hta (gV w358 w360 sM_compared w2 w361) rfl rfl rfl (by decide +kernel) ⟨Nat.le_of_ble_eq_true rfl, Nat.le_of_ble_eq_true rfl⟩) ⟨gb_R, va_recv hK hP (ci := 1) (q0 := 0) rfl rfl, fun U hU hW => ⟨rfl, by rw [hU]; exact hP, va_K.moved hW.alike hK⟩⟩ rfl rfl hl.1 rfl (lv_room (Nat.le_of_ble_eq_true rfl)) dM_sort_27 ⟨Nat.le_of_ble_eq_true rfl, Nat.le_of_ble_eq_true rfl⟩) ?_
              refine lv_if_ge (tgt := 37) hx hb dM_sort_30 (by decide) (fun h3 => ?_) (fun h3 => ?_)
              · skip
                refine lv_iload_n hx hb dM_sort_37 rfl (lv_at hl 1 rfl) ?_
                refine lv_istore_n (lv' := [(2, .int (nI y)), (3, .int (nI k9)), (1, .int (nI q)), (0, .ref (b 0))]) hx hb dM_sort_38 rfl hl (by decide) rfl (fun ls hl => ?_)
                refine lv_iinc (v := (nI (k9 + 1))) (lv' := [(3, .int (nI (k9 + 1))), (2, .int (nI y)), (1, .int (nI q)), (0, .ref (b 0))]) hx hb dM_sort_39 hl (k := 1) rfl (nI_1 _) (by decide) rfl (fun ls hl => ?_)
                refine lv_goto (tgt := 16) hx hb dM_sort_42 (by decide) ?_
                have hl := lv_sub hl [0, 1, 2, 3] rfl
                have hl : lv_has ls 4 [(3, .int (nI (k9 + 1))), (2, .int (nI y)), (1, .int (nI q)), (0, .ref (b 0))] := hl
                refine ih2 (k9 + 1) y (by omega) hqy (by omega) (fun j z1 z2 => ?_) ls hl
                rcases Nat.lt_or_ge j k9 with t | t
                · exact hmin j z1 t
                · have e : j = k9 := by omega
                  subst e
                  exact fun z => absurd (lx_lt.mpr z) (Int32.not_lt.mpr h3)
              · skip
                refine lv_iload_n hx hb dM_sort_33 rfl (lv_at hl 0 rfl) ?_
                refine lv_goto (tgt := 38) hx hb dM_sort_34 (by decide) ?_
                refine lv_istore_n (lv' := [(2, .int (nI k9)), (3, .int (nI k9)), (1, .int (nI q)), (0, .ref (b 0))]) hx hb dM_sort_38 rfl hl (by decide) rfl (fun ls hl => ?_)
                refine lv_iinc (v := (nI (k9 + 1))) (lv' := [(3, .int (nI (k9 + 1))), (2, .int (nI k9)), (1, .int (nI q)), (0, .ref (b 0))]) hx hb dM_sort_39 hl (k := 1) rfl (nI_1 _) (by decide) rfl (fun ls hl => ?_)
                refine lv_goto (tgt := 16) hx hb dM_sort_42 (by decide) ?_
                have hl := lv_sub hl [0, 1, 2, 3] rfl
                have hl : lv_has ls 4 [(3, .int (nI (k9 + 1))), (2, .int (nI k9)), (1, .int (nI q)), (0, .ref (b 0))] := hl
                refine ih2 (k9 + 1) k9 (by omega) (by omega) (by omega) (fun j z1 z2 => ?_) ls hl
                have hlt := lx_lt.mp (Int32.not_le.mp h3)
                rcases Nat.lt_or_ge j k9 with t | t
                · exact fun z => hmin j z1 t (klt_trans z hlt)
                · have e : j = k9 := by omega
                  subst e
                  exact klt_irr _ _
        have hl := lv_sub hl [0, 1, 2, 3] rfl
        have hl : lv_has ls 4 [(3, .int (nI (q + 1))), (2, .int (nI q)), (1, .int (nI q)), (0, .ref (b 0))] := hl
        refine inn (nn - (q + 1)) (q + 1) q (by omega) (Nat.le_refl _) (by omega) (fun j z1 z2 => ?_) ls hl
        have e : j = q := by omega
        subst e
        exact klt_irr _ _
  have hl := lv_sub hl [0, 1] rfl
  have hl : lv_has ls 4 [(1, .int (nI 0)), (0, .ref (b 0))] := hl
  exact loop nn 0 ks2 ct2 sm2 le2 gr2 (by omega) (fun p q _ _ z => absurd z (Nat.not_lt_zero p)) hg s.heap [] hP hD hS ls hl
