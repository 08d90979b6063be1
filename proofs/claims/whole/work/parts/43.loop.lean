set_option maxHeartbeats 4000000 in
set_option maxRecDepth 100000 in
/-- the law's loop: at its head, with q calls done -/
theorem law_loop {p : Program} {l : Launch} {e : Env} {s : State} {m : MethodId} {below : List Frame} {meth : Method} {c : Code} {dC : Nat → ClassId} {dI : Nat → Nat → Nat} {sb L : Nat} {xs : Nat → Int32} {a : Nat → Nat} {k : Nat → ClassId} {b : Nat → Nat} {d : Nat → ClassId} {a9 : Nat} {k9 : ClassId} (hnt : l.stackTraces = false) (hL : L ≤ 2048) (C0 : lw_At p s m meth c sb L xs) (hT : thrE (fun q : Nat => s.heap.size ≤ q) s s.heap) (hK : va_K (dC, dI) classes (kX k ++ kM d ++ [(k9, .long)]) s) :
    ∀ (n q : Nat), 4 * q ≤ L → L + 1 ≤ 4 * q + n → ∀ (wn mn : Nat) (fk : Nat → Int32) (fa : Nat → Int64) (T : TB) (cd : Int32) (ov : Nat → Int64) (H : Heap) (locs : List Loc) (ls : Array Slot), lwI dC dI a k b d a9 k9 s H locs wn mn fk fa T cd ov → lv_has ls 8 [(0, .ref sb), (1, .ref (a 0)), (2, .ref (b 0)), (3, .ref a9), (4, .int (nI (4 * q)))] → W p l e room_1 s m #[Value.ref sb] below meth c H locs (18 + q) (67055 + 6 * q) (lw_Z below #[Value.ref sb] s) (F0 m 23 ls []) := by
  intro n
  induction n with
  | zero =>
    intro q h1 h2
    exact absurd h2 (by omega)
  | succ n ih =>
    intro q hq0 hqn wn mn fk fa T cd ov H locs ls hI hl
    obtain ⟨hx, hb, hr, hml, hown, hts, hX, hbl, hlocks, hgv⟩ := id C0
    have hbA : ¬ (fun q : Nat => s.heap.size ≤ q) sb := Nat.not_le.mpr hbl
    obtain ⟨σ, sl, ks, ct, sm, le, gr, ks2, ct2, sm2, le2, gr2, hσ, hrep, hrep2, hP, hD, hS⟩ := id hI
    refine lv_iload hx hb dL_law_23 (lv_at hl 4 rfl) ?_
    refine lv_aload_n hx hb dL_law_25 rfl (lv_at hl 0 rfl) ?_
    refine va_slen hx hb hX hbl hbA hS dL_law_26 ?_
    refine gi_as (y := nI L) rfl ?_
    refine lv_iconst (v := 4) hx hb dL_law_27 (by decide) ?_
    refine gi_as (y := nI 4) (by decide +kernel) ?_
    refine lv_isub hx hb dL_law_28 ?_
    have e1 : (nI L - nI 4).toInt = (L : Int) - (4 : Nat) := pk_sub_toInt (by omega) (by omega)
    have e2 : (nI (4 * q)).toInt = ((4 * q : Nat) : Int) := nI_toInt (by omega)
    refine lv_icmp_gt (tgt := 737) hx hb dL_law_29 (by decide) (fun hc => ?_) (fun hc => ?_)
    · refine lv_iconst (v := 1) hx hb dL_law_737 (by decide) ?_
      refine va_forget (fun q hq => hS.2.2 q hq) ?_
      refine W.widen (k := 1056) (n := 75331) (by omega) (by omega) ?_
      exact lw_ret hx hb hr hlocks dL_law_738
    · have hq : 4 * q + 4 ≤ L := by
        rw [Int32.lt_iff_toInt_lt, e1, e2] at hc
        omega
      have nxt : (∀ (wn mn : Nat) (fk : Nat → Int32) (fa : Nat → Int64) (T : TB) (cd : Int32) (ov : Nat → Int64) (H : Heap) (locs : List Loc) (ls : Array Slot), lwI dC dI a k b d a9 k9 s H locs wn mn fk fa T cd ov → lv_has ls 8 [(0, .ref sb), (1, .ref (a 0)), (2, .ref (b 0)), (3, .ref a9), (4, .int (nI (4 * q)))] → W p l e room_1 s m #[Value.ref sb] below meth c H locs (18 + q + 1) (67055 + 6 * q + 6) (lw_Z below #[Value.ref sb] s) (F0 m 731 ls [])) := by
        intro wn mn fk fa T cd ov H locs ls hI hl
        refine lv_iinc (v := nI (4 * (q + 1))) (lv' := [(4, .int (nI (4 * (q + 1)))), (0, .ref sb), (1, .ref (a 0)), (2, .ref (b 0)), (3, .ref a9)]) hx hb dL_law_731 hl (k := 4) rfl ((nI_add (4 * q) 4).trans (by rw [show 4 * q + 4 = 4 * (q + 1) by omega])) (by decide) rfl (fun ls hl => ?_)
        refine lv_goto (tgt := 23) hx hb dL_law_734 (by decide) ?_
        have hl := lv_sub hl [1, 2, 3, 4, 0] rfl
        have hl : lv_has ls 8 [(0, .ref sb), (1, .ref (a 0)), (2, .ref (b 0)), (3, .ref a9), (4, .int (nI (4 * (q + 1))))] := hl
        refine W.cs (cells' := 18 + (q + 1)) (slots' := 67055 + 6 * (q + 1)) (by omega) (by omega) ?_
        exact ih (q + 1) (by omega) (by omega) wn mn fk fa T cd ov H locs ls hI hl
      refine lv_aload_n hx hb dL_law_32 rfl (lv_at hl 0 rfl) ?_
      refine lv_iload hx hb dL_law_33 (lv_at hl 4 rfl) ?_
      refine va_sld hx hb hX hbl hbA hS (vp_in_nI (n := 4 * q) (by omega) (by omega)) dL_law_35 ?_
      refine lv_bipush (v := 15) hx hb dL_law_36 (by decide) ?_
      refine lv_iand hx hb dL_law_38 ?_
      obtain ⟨j, hj, ej⟩ := pk_andE (xs (nI (4 * q)).toNatClampNeg) (m := 15) 4 (by decide)
      refine gi_as (y := nI j) ej ?_
      have hj : j < 16 := hj
      by_cases h11 : 11 ≤ j
      · refine lv_tableOut (tgt := 731) hx hb dL_law_39 (Or.inr (by rw [nI_toInt (by omega)]; omega)) (by decide) ?_
        refine W.widen (k := 18 + q + 1) (n := 67055 + 6 * q + 6) (by omega) (by omega) ?_
        exact nxt wn mn fk fa T cd ov H locs ls hI hl
      have h9 : j = 0 ∨ j = 1 ∨ j = 2 ∨ j = 3 ∨ j = 4 ∨ j = 5 ∨ j = 6 ∨ j = 7 ∨ j = 8 ∨ j = 9 ∨ j = 10 := by omega
      clear hj h11 ej
      rcases h9 with rfl | rfl | rfl | rfl | rfl | rfl | rfl | rfl | rfl | rfl | rfl
      · refine lv_tableIn (off := 57) (tgt := 96) hx hb dL_law_39 (by decide +kernel) (by decide +kernel) (by decide +kernel) (by decide +kernel) ?_
        exact lc_begin hnt hL C0 hT hK q hq nxt wn mn fk fa T cd ov H locs ls hI hl
      · refine lv_tableIn (off := 105) (tgt := 144) hx hb dL_law_39 (by decide +kernel) (by decide +kernel) (by decide +kernel) (by decide +kernel) ?_
        exact lc_key hnt hL C0 hT hK q hq nxt wn mn fk fa T cd ov H locs ls hI hl
      · refine lv_tableIn (off := 173) (tgt := 212) hx hb dL_law_39 (by decide +kernel) (by decide +kernel) (by decide +kernel) (by decide +kernel) ?_
        exact lc_amount hnt hL C0 hT hK q hq nxt wn mn fk fa T cd ov H locs ls hI hl
      · refine lv_tableIn (off := 272) (tgt := 311) hx hb dL_law_39 (by decide +kernel) (by decide +kernel) (by decide +kernel) (by decide +kernel) ?_
        exact lc_add hnt hL C0 hT hK q hq nxt wn mn fk fa T cd ov H locs ls hI hl
      · refine lv_tableIn (off := 328) (tgt := 367) hx hb dL_law_39 (by decide +kernel) (by decide +kernel) (by decide +kernel) (by decide +kernel) ?_
        exact lc_spread hnt hL C0 hT hK q hq nxt wn mn fk fa T cd ov H locs ls hI hl
      · refine lv_tableIn (off := 408) (tgt := 447) hx hb dL_law_39 (by decide +kernel) (by decide +kernel) (by decide +kernel) (by decide +kernel) ?_
        exact lc_roll hnt hL C0 hT hK q hq nxt wn mn fk fa T cd ov H locs ls hI hl
      · refine lv_tableIn (off := 464) (tgt := 503) hx hb dL_law_39 (by decide +kernel) (by decide +kernel) (by decide +kernel) (by decide +kernel) ?_
        exact lc_rows hnt hL C0 hT hK q hq nxt wn mn fk fa T cd ov H locs ls hI hl
      · refine lv_tableIn (off := 477) (tgt := 516) hx hb dL_law_39 (by decide +kernel) (by decide +kernel) (by decide +kernel) (by decide +kernel) ?_
        exact lc_find hnt hL C0 hT hK q hq nxt wn mn fk fa T cd ov H locs ls hI hl
      · refine lv_tableIn (off := 490) (tgt := 529) hx hb dL_law_39 (by decide +kernel) (by decide +kernel) (by decide +kernel) (by decide +kernel) ?_
        exact lc_keyAt hnt hL C0 hT hK q hq nxt wn mn fk fa T cd ov H locs ls hI hl
      · refine lv_tableIn (off := 558) (tgt := 597) hx hb dL_law_39 (by decide +kernel) (by decide +kernel) (by decide +kernel) (by decide +kernel) ?_
        exact lc_count hnt hL C0 hT hK q hq nxt wn mn fk fa T cd ov H locs ls hI hl
      · refine lv_tableIn (off := 613) (tgt := 652) hx hb dL_law_39 (by decide +kernel) (by decide +kernel) (by decide +kernel) (by decide +kernel) ?_
        exact lc_told hnt hL C0 hT hK q hq nxt wn mn fk fa T cd ov H locs ls hI hl
