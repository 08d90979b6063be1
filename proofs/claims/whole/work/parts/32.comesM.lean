set_option maxHeartbeats 4000000 in
set_option maxRecDepth 100000 in
/-- comes -/
theorem c_comes (l : Launch) (dC : Nat → ClassId) (dI : Nat → Nat → Nat) (b : Nat → Nat) (d : Nat → ClassId) (cd : Int32) (wn mn : Nat) (fk : Nat → Int32) (fa : Nat → Int64) (T : TB) (ks2 : Nat → Int32) (ct2 sm2 le2 gr2 : Nat → Int64) (hrep : repT (fun p => p) wn mn T ks2 ct2 sm2 le2 gr2) (nn : Int32) (sz : Nat)  : Met l yM_comes (Cond.code yM_comes bM_comes 7 (some .boolean) :: wAll) { frames := 2, cells := 0, slots := 0, locals := 96 } (va_Pc [.ref (b 0), .int nn] (fun U => U.heap.size = sz ∧ va_P (dC, dI) classes (wM b d cd (nI wn) (nI mn) (nI T.1) ks2 ct2 sm2 le2 gr2 fk fa) U.heap ∧ va_K (dC, dI) classes (kM d) U ∧ va_D (fun _ => True) (wM b d cd (nI wn) (nI mn) (nI T.1) ks2 ct2 sm2 le2 gr2 fk fa))) (va_Qi (fun (r9 : Int32) (_ : Unit) => r9 = (if (takeT wn fk fa nn.toInt64 T).2 = true then 1 else 0)) (fun (_ : Unit) (t9 : State) => atM dC dI (va_A (wM b d cd (nI wn) (nI mn) (nI T.1) ks2 ct2 sm2 le2 gr2 fk fa) sz) b d cd wn mn fk fa (takeT wn fk fa nn.toInt64 T).1 t9) (va_A (wM b d cd (nI wn) (nI mn) (nI T.1) ks2 ct2 sm2 le2 gr2 fk fa) sz)) 0 0 (va_A (wM b d cd (nI wn) (nI mn) (nI T.1) ks2 ct2 sm2 le2 gr2 fk fa) sz) := by
  refine Met.ofW (cc := bM_comes) (maxL := 7) (ret := (some .boolean)) (by decide) rfl ?_
  intro p e s m args below meth c s₁ B hml hv
  obtain ⟨rfl, hsz, hP, hK, hD0⟩ := hv
  have hx := B.exec
  have hb := B.bytes
  have hr := B.returns
  have hta : ∀ w ∈ wAll, w.before ([.ref (b 0), .int nn] : List Value).toArray s = true := fun w h => atoms_spec (ws := (Cond.code yM_comes bM_comes 7 (some .boolean) :: wAll)) B.pre w (List.mem_cons_of_mem _ h)
  have hown : s.vm.findClass "GroupRowsModel" = some m.cls := findClass_of_methodNamed B.named
  have hlocks := B.notSynchronized
  subst hsz
  have hD := hD0.self (sz := s.heap.size)
  generalize hAe : va_A (wM b d cd (nI wn) (nI mn) (nI T.1) ks2 ct2 sm2 le2 gr2 fk fa) s.heap.size = A at hD ⊢
  have hA : ∀ q : Nat, s.heap.size ≤ q → A q := fun q h => by rw [← hAe]; exact Or.inr h
  have hS : va_S A s.heap s.heap [] := va_S.rf
  have hP : va_P (dC, dI) classes (wM b d cd (nI wn) (nI mn) (nI T.1) ks2 ct2 sm2 le2 gr2 fk fa) s.heap := hP
  have hl := lv_entry ([.ref (b 0), .int nn]) (n := 7) (Nat.le_of_ble_eq_true rfl)
  rw [lg_entry_eq]
  generalize (lg_sl ([.ref (b 0), .int nn]) ++ List.replicate (7 - (lg_sl ([.ref (b 0), .int nn])).length) Slot.unset).toArray = ls at hl ⊢
  have hl : lv_has ls 7 [(0, .ref (b 0)), (1, .int nn)] := hl
  obtain ⟨⟨hwn, hmn1, hmn, hn⟩, hk9, hc9, hv9, hs9⟩ := id hrep
  have hlow := repM_low (fk := fk) hrep
  have hlow2 := lowP_is (key := fk) hrep.2.2.2.2
  obtain ⟨ps, eps⟩ : ∃ ps, ps = lowP wn T.1 T.2.1 fk := ⟨_, rfl⟩
  rw [← eps] at hlow hlow2
  have hps := hlow.1
  obtain ⟨n64, en64⟩ : ∃ z : Int64, z = nn.toInt64 := ⟨_, rfl⟩
  have tail : ∀ (n1 : Nat) (ks1 : Nat → Int32) (ct1 sm1 le1 gr1 : Nat → Int64), ps < 1000 → n1 = (takeT wn fk fa nn.toInt64 T).1.1 → (takeT wn fk fa nn.toInt64 T).2 = true → repT (fun p => p) wn mn (takeT wn fk fa nn.toInt64 T).1 ks1 (vp_updL ct1 ps (ct1 ps + nn.toInt64)) (upTo (fun m x => x + nn.toInt64 * fa m) (8 * ps) sm1 mn) (upTo (fun m x => if fa m < x then fa m else x) (8 * ps) le1 mn) (upTo (fun m x => if x < fa m then fa m else x) (8 * ps) gr1 mn) → ∀ (H : Heap) (locs : List Loc), va_P (dC, dI) classes (wM b d cd (nI wn) (nI mn) (nI n1) ks1 ct1 sm1 le1 gr1 fk fa) H → va_D A (wM b d cd (nI wn) (nI mn) (nI n1) ks1 ct1 sm1 le1 gr1 fk fa) → va_S A s.heap H locs → ∀ (ls : Array Slot), lv_has ls 7 [(2, .int (nI ps)), (0, .ref (b 0)), (1, .int nn)] → W p l e (headSpec (Cond.code yM_comes bM_comes 7 (some .boolean) :: wAll) { frames := 2, cells := 0, slots := 0, locals := 96 }).room s m ([.ref (b 0), .int nn] : List Value).toArray below meth c H locs 0 0 (MQ below (va_Qi (fun (r9 : Int32) (_ : Unit) => r9 = (if (takeT wn fk fa nn.toInt64 T).2 = true then 1 else 0)) (fun (_ : Unit) (t9 : State) => atM dC dI A b d cd wn mn fk fa (takeT wn fk fa nn.toInt64 T).1 t9) A) ([.ref (b 0), .int nn] : List Value).toArray s 0 0 A) (F0 m 178 ls []) := by
    intro n1 ks1 ct1 sm1 le1 gr1 hps9 en1 htk hfin H locs hP hD hS ls hl
    refine lv_aload_n hx hb dM_comes_178 rfl (lv_at hl 1 rfl) ?_
    refine va_get (D := (dC, dI)) (ci := 1) (v := .ref (b 2)) (C := "GroupRowsModel") (T := FM) (N := 11) hx hb hta inM hown hK hP 0 rfl rfl 5 (by decide) (hta _ w283) (fun _ h9 => h9) rfl dM_comes_179 ?_
    refine lv_iload_n hx hb dM_comes_182 rfl (lv_at hl 0 rfl) ?_
    refine lv_dup2_11 hx hb dM_comes_183 rfl rfl ?_
    refine gi_lald hx hb hK hP 2 1 rfl rfl (k := ps) (by omega) (by decide) dM_comes_184 ?_
    refine lv_iload_n hx hb dM_comes_185 rfl (lv_at hl 2 rfl) ?_
    refine lv_i2l (v := nn.toInt64) hx hb dM_comes_186 rfl ?_
    refine lv_ladd hx hb dM_comes_187 ?_
    refine gi_last hx hb hK hP hD hS 2 1 rfl rfl (k := ps) (by omega) (by decide) dM_comes_188 (fun H locs hP hD hS => ?_)
    have hP : va_P (dC, dI) classes (wM b d cd (nI wn) (nI mn) (nI n1) ks1 (vp_updL ct1 ps ((ct1 ps) + (nn.toInt64))) sm1 le1 gr1 fk fa) H := hP
    have hD : va_D A (wM b d cd (nI wn) (nI mn) (nI n1) ks1 (vp_updL ct1 ps ((ct1 ps) + (nn.toInt64))) sm1 le1 gr1 fk fa) := hD
    refine lv_iconst (v := 0) hx hb dM_comes_189 (by decide) ?_
    refine gi_as (y := nI 0) (nI_0.symm) ?_
    refine lv_istore (lv' := [(4, .int (nI 0)), (2, .int (nI ps)), (0, .ref (b 0)), (1, .int nn)]) hx hb dM_comes_190 hl (by decide) rfl (fun ls hl => ?_)
    have loop : ∀ (kk j : Nat), j + kk = mn → ∀ (H : Heap) (locs : List Loc), va_P (dC, dI) classes (wM b d cd (nI wn) (nI mn) (nI n1) ks1 (vp_updL ct1 ps (ct1 ps + nn.toInt64)) (upTo (fun m x => x + nn.toInt64 * fa m) (8 * ps) sm1 j) (upTo (fun m x => if fa m < x then fa m else x) (8 * ps) le1 j) (upTo (fun m x => if x < fa m then fa m else x) (8 * ps) gr1 j) fk fa) H → va_D A (wM b d cd (nI wn) (nI mn) (nI n1) ks1 (vp_updL ct1 ps (ct1 ps + nn.toInt64)) (upTo (fun m x => x + nn.toInt64 * fa m) (8 * ps) sm1 j) (upTo (fun m x => if fa m < x then fa m else x) (8 * ps) le1 j) (upTo (fun m x => if x < fa m then fa m else x) (8 * ps) gr1 j) fk fa) → va_S A s.heap H locs → ∀ (ls : Array Slot), lv_has ls 7 [(4, .int (nI j)), (2, .int (nI ps)), (0, .ref (b 0)), (1, .int nn)] → W p l e (headSpec (Cond.code yM_comes bM_comes 7 (some .boolean) :: wAll) { frames := 2, cells := 0, slots := 0, locals := 96 }).room s m ([.ref (b 0), .int nn] : List Value).toArray below meth c H locs 0 0 (MQ below (va_Qi (fun (r9 : Int32) (_ : Unit) => r9 = (if (takeT wn fk fa nn.toInt64 T).2 = true then 1 else 0)) (fun (_ : Unit) (t9 : State) => atM dC dI A b d cd wn mn fk fa (takeT wn fk fa nn.toInt64 T).1 t9) A) ([.ref (b 0), .int nn] : List Value).toArray s 0 0 A) (F0 m 192 ls []) := by
      intro kk
      induction kk with
      | zero =>
        intro j hj H locs hP hD hS ls hl
        refine lv_iload hx hb dM_comes_192 (lv_at hl 0 rfl) ?_
        refine lv_aload_n hx hb dM_comes_194 rfl (lv_at hl 2 rfl) ?_
        refine va_get (D := (dC, dI)) (ci := 1) (v := .int (nI mn)) (C := "GroupRowsModel") (T := FM) (N := 11) hx hb hta inM hown hK hP 0 rfl rfl 2 (by decide) (hta _ w280) (fun _ h9 => h9) rfl dM_comes_195 ?_
        refine lv_icmp_ge (tgt := 330) hx hb dM_comes_198 (by decide) (fun h1 => ?_) (fun h1 => ?_)
        · skip
          have hj : mn = j := by omega
          subst hj
          subst en1
          refine lv_iconst (v := 1) hx hb dM_comes_330 (by decide) ?_
          exact W.zret (v := 1) hx hb hr rfl (fun t9 ht9 hW9 => ⟨⟨1, (), rfl, (if_pos htk).symm, ⟨_, _, _, _, _, hfin, by rw [ht9]; exact hP, va_K.moved hW9.alike hK, hD⟩⟩, hS.F ht9⟩) hS.2.2 dM_comes_331
        · skip
          exact absurd (nI_le (by omega) (by omega)) h1
      | succ kk ih =>
        intro j hj H locs hP hD hS ls hl
        refine lv_iload hx hb dM_comes_192 (lv_at hl 0 rfl) ?_
        refine lv_aload_n hx hb dM_comes_194 rfl (lv_at hl 2 rfl) ?_
        refine va_get (D := (dC, dI)) (ci := 1) (v := .int (nI mn)) (C := "GroupRowsModel") (T := FM) (N := 11) hx hb hta inM hown hK hP 0 rfl rfl 2 (by decide) (hta _ w280) (fun _ h9 => h9) rfl dM_comes_195 ?_
        refine lv_icmp_ge (tgt := 330) hx hb dM_comes_198 (by decide) (fun h1 => ?_) (fun h1 => ?_)
        · skip
          exact absurd h1 (nI_ge (a := j) (by omega) (by omega))
        · skip
          refine lv_aload_n hx hb dM_comes_201 rfl (lv_at hl 2 rfl) ?_
          refine va_get (D := (dC, dI)) (ci := 1) (v := .ref (b 7)) (C := "GroupRowsModel") (T := FM) (N := 11) hx hb hta inM hown hK hP 0 rfl rfl 10 (by decide) (hta _ w288) (fun _ h9 => h9) rfl dM_comes_202 ?_
          refine lv_iload hx hb dM_comes_205 (lv_at hl 0 rfl) ?_
          refine gi_lald hx hb hK hP 7 6 rfl rfl (k := j) (by omega) (by decide) dM_comes_207 ?_
          refine lv_lstore (lv' := [(5, .long (fa j)), (4, .int (nI j)), (2, .int (nI ps)), (0, .ref (b 0)), (1, .int nn)]) hx hb dM_comes_208 hl (by decide) rfl (fun ls hl => ?_)
          refine lv_aload_n hx hb dM_comes_210 rfl (lv_at hl 3 rfl) ?_
          refine va_get (D := (dC, dI)) (ci := 1) (v := .ref (b 3)) (C := "GroupRowsModel") (T := FM) (N := 11) hx hb hta inM hown hK hP 0 rfl rfl 6 (by decide) (hta _ w284) (fun _ h9 => h9) rfl dM_comes_211 ?_
          refine lv_bipush (v := 8) hx hb dM_comes_214 (by decide) ?_
          refine lv_iload_n hx hb dM_comes_216 rfl (lv_at hl 2 rfl) ?_
          refine lv_imul hx hb dM_comes_217 ?_
          refine gi_as (y := nI (8 * ps)) (gi_8mul _) ?_
          refine lv_iload hx hb dM_comes_218 (lv_at hl 1 rfl) ?_
          refine lv_iadd hx hb dM_comes_220 ?_
          refine gi_as (y := nI ((8 * ps) + j)) (nI_add _ _) ?_
          refine lv_dup2_11 hx hb dM_comes_221 rfl rfl ?_
          refine gi_lald hx hb hK hP 3 2 rfl rfl (k := ((8 * ps) + j)) (by omega) (by decide) dM_comes_222 ?_
          refine lv_iload_n hx hb dM_comes_223 rfl (lv_at hl 4 rfl) ?_
          refine lv_i2l (v := nn.toInt64) hx hb dM_comes_224 rfl ?_
          refine lv_lload hx hb dM_comes_225 (lv_at hl 0 rfl) ?_
          refine lv_lmul hx hb dM_comes_227 ?_
          refine lv_ladd hx hb dM_comes_228 ?_
          refine gi_last hx hb hK hP hD hS 3 2 rfl rfl (k := ((8 * ps) + j)) (by omega) (by decide) dM_comes_229 (fun H locs hP hD hS => ?_)
          have hP : va_P (dC, dI) classes (wM b d cd (nI wn) (nI mn) (nI n1) ks1 (vp_updL ct1 ps (ct1 ps + nn.toInt64)) (vp_updL (upTo (fun m x => x + nn.toInt64 * fa m) (8 * ps) sm1 j) ((8 * ps) + j) (((upTo (fun m x => x + nn.toInt64 * fa m) (8 * ps) sm1 j) ((8 * ps) + j)) + ((nn.toInt64) * (fa j)))) (upTo (fun m x => if fa m < x then fa m else x) (8 * ps) le1 j) (upTo (fun m x => if x < fa m then fa m else x) (8 * ps) gr1 j) fk fa) H := hP
          have hD : va_D A (wM b d cd (nI wn) (nI mn) (nI n1) ks1 (vp_updL ct1 ps (ct1 ps + nn.toInt64)) (vp_updL (upTo (fun m x => x + nn.toInt64 * fa m) (8 * ps) sm1 j) ((8 * ps) + j) (((upTo (fun m x => x + nn.toInt64 * fa m) (8 * ps) sm1 j) ((8 * ps) + j)) + ((nn.toInt64) * (fa j)))) (upTo (fun m x => if fa m < x then fa m else x) (8 * ps) le1 j) (upTo (fun m x => if x < fa m then fa m else x) (8 * ps) gr1 j) fk fa) := hD
          refine lv_aload_n hx hb dM_comes_230 rfl (lv_at hl 3 rfl) ?_
          refine va_get (D := (dC, dI)) (ci := 1) (v := .ref (b 4)) (C := "GroupRowsModel") (T := FM) (N := 11) hx hb hta inM hown hK hP 0 rfl rfl 7 (by decide) (hta _ w285) (fun _ h9 => h9) rfl dM_comes_231 ?_
          refine lv_bipush (v := 8) hx hb dM_comes_234 (by decide) ?_
          refine lv_iload_n hx hb dM_comes_236 rfl (lv_at hl 2 rfl) ?_
          refine lv_imul hx hb dM_comes_237 ?_
          refine gi_as (y := nI (8 * ps)) (gi_8mul _) ?_
          refine lv_iload hx hb dM_comes_238 (lv_at hl 1 rfl) ?_
          refine lv_iadd hx hb dM_comes_240 ?_
          refine gi_as (y := nI ((8 * ps) + j)) (nI_add _ _) ?_
          refine lv_lload hx hb dM_comes_241 (lv_at hl 0 rfl) ?_
          refine lv_aload_n hx hb dM_comes_243 rfl (lv_at hl 3 rfl) ?_
          refine va_get (D := (dC, dI)) (ci := 1) (v := .ref (b 4)) (C := "GroupRowsModel") (T := FM) (N := 11) hx hb hta inM hown hK hP 0 rfl rfl 7 (by decide) (hta _ w285) (fun _ h9 => h9) rfl dM_comes_244 ?_
          refine lv_bipush (v := 8) hx hb dM_comes_247 (by decide) ?_
          refine lv_iload_n hx hb dM_comes_249 rfl (lv_at hl 2 rfl) ?_
          refine lv_imul hx hb dM_comes_250 ?_
          refine gi_as (y := nI (8 * ps)) (gi_8mul _) ?_
          refine lv_iload hx hb dM_comes_251 (lv_at hl 1 rfl) ?_
          refine lv_iadd hx hb dM_comes_253 ?_
          refine gi_as (y := nI ((8 * ps) + j)) (nI_add _ _) ?_
          refine gi_lald hx hb hK hP 4 3 rfl rfl (k := ((8 * ps) + j)) (by omega) (by decide) dM_comes_254 ?_
          have j1 : W p l e (headSpec (Cond.code yM_comes bM_comes 7 (some .boolean) :: wAll) { frames := 2, cells := 0, slots := 0, locals := 96 }).room s m ([.ref (b 0), .int nn] : List Value).toArray below meth c H locs 0 0 (MQ below (va_Qi (fun (r9 : Int32) (_ : Unit) => r9 = (if (takeT wn fk fa nn.toInt64 T).2 = true then 1 else 0)) (fun (_ : Unit) (t9 : State) => atM dC dI A b d cd wn mn fk fa (takeT wn fk fa nn.toInt64 T).1 t9) A) ([.ref (b 0), .int nn] : List Value).toArray s 0 0 A) (F0 m 276 ls [.long (if fa j < (upTo (fun m x => if fa m < x then fa m else x) (8 * ps) le1 j) (8 * ps + j) then fa j else (upTo (fun m x => if fa m < x then fa m else x) (8 * ps) le1 j) (8 * ps + j)),.int (nI ((8 * ps) + j)),.ref (b 4)]) := by
            refine gi_last hx hb hK hP hD hS 4 3 rfl rfl (k := ((8 * ps) + j)) (by omega) (by decide) dM_comes_276 (fun H locs hP hD hS => ?_)
            have hP : va_P (dC, dI) classes (wM b d cd (nI wn) (nI mn) (nI n1) ks1 (vp_updL ct1 ps (ct1 ps + nn.toInt64)) (vp_updL (upTo (fun m x => x + nn.toInt64 * fa m) (8 * ps) sm1 j) ((8 * ps) + j) (((upTo (fun m x => x + nn.toInt64 * fa m) (8 * ps) sm1 j) ((8 * ps) + j)) + ((nn.toInt64) * (fa j)))) (vp_updL (upTo (fun m x => if fa m < x then fa m else x) (8 * ps) le1 j) ((8 * ps) + j) (if fa j < (upTo (fun m x => if fa m < x then fa m else x) (8 * ps) le1 j) (8 * ps + j) then fa j else (upTo (fun m x => if fa m < x then fa m else x) (8 * ps) le1 j) (8 * ps + j))) (upTo (fun m x => if x < fa m then fa m else x) (8 * ps) gr1 j) fk fa) H := hP
            have hD : va_D A (wM b d cd (nI wn) (nI mn) (nI n1) ks1 (vp_updL ct1 ps (ct1 ps + nn.toInt64)) (vp_updL (upTo (fun m x => x + nn.toInt64 * fa m) (8 * ps) sm1 j) ((8 * ps) + j) (((upTo (fun m x => x + nn.toInt64 * fa m) (8 * ps) sm1 j) ((8 * ps) + j)) + ((nn.toInt64) * (fa j)))) (vp_updL (upTo (fun m x => if fa m < x then fa m else x) (8 * ps) le1 j) ((8 * ps) + j) (if fa j < (upTo (fun m x => if fa m < x then fa m else x) (8 * ps) le1 j) (8 * ps + j) then fa j else (upTo (fun m x => if fa m < x then fa m else x) (8 * ps) le1 j) (8 * ps + j))) (upTo (fun m x => if x < fa m then fa m else x) (8 * ps) gr1 j) fk fa) := hD
            refine lv_aload_n hx hb dM_comes_277 rfl (lv_at hl 3 rfl) ?_
            refine va_get (D := (dC, dI)) (ci := 1) (v := .ref (b 5)) (C := "GroupRowsModel") (T := FM) (N := 11) hx hb hta inM hown hK hP 0 rfl rfl 8 (by decide) (hta _ w286) (fun _ h9 => h9) rfl dM_comes_278 ?_
            refine lv_bipush (v := 8) hx hb dM_comes_281 (by decide) ?_
            refine lv_iload_n hx hb dM_comes_283 rfl (lv_at hl 2 rfl) ?_
            refine lv_imul hx hb dM_comes_284 ?_
            refine gi_as (y := nI (8 * ps)) (gi_8mul _) ?_
            refine lv_iload hx hb dM_comes_285 (lv_at hl 1 rfl) ?_
            refine lv_iadd hx hb dM_comes_287 ?_
            refine gi_as (y := nI ((8 * ps) + j)) (nI_add _ _) ?_
            refine lv_lload hx hb dM_comes_288 (lv_at hl 0 rfl) ?_
            refine lv_aload_n hx hb dM_comes_290 rfl (lv_at hl 3 rfl) ?_
            refine va_get (D := (dC, dI)) (ci := 1) (v := .ref (b 5)) (C := "GroupRowsModel") (T := FM) (N := 11) hx hb hta inM hown hK hP 0 rfl rfl 8 (by decide) (hta _ w286) (fun _ h9 => h9) rfl dM_comes_291 ?_
            refine lv_bipush (v := 8) hx hb dM_comes_294 (by decide) ?_
            refine lv_iload_n hx hb dM_comes_296 rfl (lv_at hl 2 rfl) ?_
            refine lv_imul hx hb dM_comes_297 ?_
            refine gi_as (y := nI (8 * ps)) (gi_8mul _) ?_
            refine lv_iload hx hb dM_comes_298 (lv_at hl 1 rfl) ?_
            refine lv_iadd hx hb dM_comes_300 ?_
            refine gi_as (y := nI ((8 * ps) + j)) (nI_add _ _) ?_
            refine gi_lald hx hb hK hP 5 4 rfl rfl (k := ((8 * ps) + j)) (by omega) (by decide) dM_comes_301 ?_
            have j2 : W p l e (headSpec (Cond.code yM_comes bM_comes 7 (some .boolean) :: wAll) { frames := 2, cells := 0, slots := 0, locals := 96 }).room s m ([.ref (b 0), .int nn] : List Value).toArray below meth c H locs 0 0 (MQ below (va_Qi (fun (r9 : Int32) (_ : Unit) => r9 = (if (takeT wn fk fa nn.toInt64 T).2 = true then 1 else 0)) (fun (_ : Unit) (t9 : State) => atM dC dI A b d cd wn mn fk fa (takeT wn fk fa nn.toInt64 T).1 t9) A) ([.ref (b 0), .int nn] : List Value).toArray s 0 0 A) (F0 m 323 ls [.long (if (upTo (fun m x => if x < fa m then fa m else x) (8 * ps) gr1 j) (8 * ps + j) < fa j then fa j else (upTo (fun m x => if x < fa m then fa m else x) (8 * ps) gr1 j) (8 * ps + j)),.int (nI ((8 * ps) + j)),.ref (b 5)]) := by
              refine gi_last hx hb hK hP hD hS 5 4 rfl rfl (k := ((8 * ps) + j)) (by omega) (by decide) dM_comes_323 (fun H locs hP hD hS => ?_)
              have hP : va_P (dC, dI) classes (wM b d cd (nI wn) (nI mn) (nI n1) ks1 (vp_updL ct1 ps (ct1 ps + nn.toInt64)) (vp_updL (upTo (fun m x => x + nn.toInt64 * fa m) (8 * ps) sm1 j) ((8 * ps) + j) (((upTo (fun m x => x + nn.toInt64 * fa m) (8 * ps) sm1 j) ((8 * ps) + j)) + ((nn.toInt64) * (fa j)))) (vp_updL (upTo (fun m x => if fa m < x then fa m else x) (8 * ps) le1 j) ((8 * ps) + j) (if fa j < (upTo (fun m x => if fa m < x then fa m else x) (8 * ps) le1 j) (8 * ps + j) then fa j else (upTo (fun m x => if fa m < x then fa m else x) (8 * ps) le1 j) (8 * ps + j))) (vp_updL (upTo (fun m x => if x < fa m then fa m else x) (8 * ps) gr1 j) ((8 * ps) + j) (if (upTo (fun m x => if x < fa m then fa m else x) (8 * ps) gr1 j) (8 * ps + j) < fa j then fa j else (upTo (fun m x => if x < fa m then fa m else x) (8 * ps) gr1 j) (8 * ps + j))) fk fa) H := hP
              have hD : va_D A (wM b d cd (nI wn) (nI mn) (nI n1) ks1 (vp_updL ct1 ps (ct1 ps + nn.toInt64)) (vp_updL (upTo (fun m x => x + nn.toInt64 * fa m) (8 * ps) sm1 j) ((8 * ps) + j) (((upTo (fun m x => x + nn.toInt64 * fa m) (8 * ps) sm1 j) ((8 * ps) + j)) + ((nn.toInt64) * (fa j)))) (vp_updL (upTo (fun m x => if fa m < x then fa m else x) (8 * ps) le1 j) ((8 * ps) + j) (if fa j < (upTo (fun m x => if fa m < x then fa m else x) (8 * ps) le1 j) (8 * ps + j) then fa j else (upTo (fun m x => if fa m < x then fa m else x) (8 * ps) le1 j) (8 * ps + j))) (vp_updL (upTo (fun m x => if x < fa m then fa m else x) (8 * ps) gr1 j) ((8 * ps) + j) (if (upTo (fun m x => if x < fa m then fa m else x) (8 * ps) gr1 j) (8 * ps + j) < fa j then fa j else (upTo (fun m x => if x < fa m then fa m else x) (8 * ps) gr1 j) (8 * ps + j))) fk fa) := hD
              refine lv_iinc (v := (nI (j + 1))) (lv' := [(4, .int (nI (j + 1))), (5, .long (fa j)), (2, .int (nI ps)), (0, .ref (b 0)), (1, .int nn)]) hx hb dM_comes_324 hl (k := 1) rfl (nI_1 _) (by decide) rfl (fun ls hl => ?_)
              refine lv_goto (tgt := 192) hx hb dM_comes_327 (by decide) ?_
              have hl := lv_sub hl [0, 2, 3, 4] rfl
              have hl : lv_has ls 7 [(4, .int (nI (j + 1))), (2, .int (nI ps)), (0, .ref (b 0)), (1, .int nn)] := hl
              exact ih (j + 1) (by omega) H locs hP hD hS ls hl
            refine W.lcmp (x := (fa j)) (y := ((upTo (fun m x => if x < fa m then fa m else x) (8 * ps) gr1 j) ((8 * ps) + j))) hx hb dM_comes_302 ?_
            refine lv_if_le (tgt := 311) hx hb dM_comes_303 (by decide) (fun h3 => ?_) (fun h3 => ?_)
            · skip
              refine lv_aload_n hx hb dM_comes_311 rfl (lv_at hl 3 rfl) ?_
              refine va_get (D := (dC, dI)) (ci := 1) (v := .ref (b 5)) (C := "GroupRowsModel") (T := FM) (N := 11) hx hb hta inM hown hK hP 0 rfl rfl 8 (by decide) (hta _ w286) (fun _ h9 => h9) rfl dM_comes_312 ?_
              refine lv_bipush (v := 8) hx hb dM_comes_315 (by decide) ?_
              refine lv_iload_n hx hb dM_comes_317 rfl (lv_at hl 2 rfl) ?_
              refine lv_imul hx hb dM_comes_318 ?_
              refine gi_as (y := nI (8 * ps)) (gi_8mul _) ?_
              refine lv_iload hx hb dM_comes_319 (lv_at hl 1 rfl) ?_
              refine lv_iadd hx hb dM_comes_321 ?_
              refine gi_as (y := nI ((8 * ps) + j)) (nI_add _ _) ?_
              refine gi_lald hx hb hK hP 5 4 rfl rfl (k := ((8 * ps) + j)) (by omega) (by decide) dM_comes_322 ?_
              refine gi_asl (y := (if (upTo (fun m x => if x < fa m then fa m else x) (8 * ps) gr1 j) (8 * ps + j) < fa j then fa j else (upTo (fun m x => if x < fa m then fa m else x) (8 * ps) gr1 j) (8 * ps + j))) ((if_neg (lg_le_not_lt ((lg_cmp_le _ _).mp h3))).symm) ?_
              exact j2
            · skip
              refine lv_lload hx hb dM_comes_306 (lv_at hl 0 rfl) ?_
              refine lv_goto (tgt := 323) hx hb dM_comes_308 (by decide) ?_
              refine gi_asl (y := (if (upTo (fun m x => if x < fa m then fa m else x) (8 * ps) gr1 j) (8 * ps + j) < fa j then fa j else (upTo (fun m x => if x < fa m then fa m else x) (8 * ps) gr1 j) (8 * ps + j))) ((if_pos (Int64.not_le.mp (fun z => h3 ((lg_cmp_le _ _).mpr z)))).symm) ?_
              exact j2
          refine W.lcmp (x := (fa j)) (y := ((upTo (fun m x => if fa m < x then fa m else x) (8 * ps) le1 j) ((8 * ps) + j))) hx hb dM_comes_255 ?_
          refine lv_if_ge (tgt := 264) hx hb dM_comes_256 (by decide) (fun h2 => ?_) (fun h2 => ?_)
          · skip
            refine lv_aload_n hx hb dM_comes_264 rfl (lv_at hl 3 rfl) ?_
            refine va_get (D := (dC, dI)) (ci := 1) (v := .ref (b 4)) (C := "GroupRowsModel") (T := FM) (N := 11) hx hb hta inM hown hK hP 0 rfl rfl 7 (by decide) (hta _ w285) (fun _ h9 => h9) rfl dM_comes_265 ?_
            refine lv_bipush (v := 8) hx hb dM_comes_268 (by decide) ?_
            refine lv_iload_n hx hb dM_comes_270 rfl (lv_at hl 2 rfl) ?_
            refine lv_imul hx hb dM_comes_271 ?_
            refine gi_as (y := nI (8 * ps)) (gi_8mul _) ?_
            refine lv_iload hx hb dM_comes_272 (lv_at hl 1 rfl) ?_
            refine lv_iadd hx hb dM_comes_274 ?_
            refine gi_as (y := nI ((8 * ps) + j)) (nI_add _ _) ?_
            refine gi_lald hx hb hK hP 4 3 rfl rfl (k := ((8 * ps) + j)) (by omega) (by decide) dM_comes_275 ?_
            refine gi_asl (y := (if fa j < (upTo (fun m x => if fa m < x then fa m else x) (8 * ps) le1 j) (8 * ps + j) then fa j else (upTo (fun m x => if fa m < x then fa m else x) (8 * ps) le1 j) (8 * ps + j))) ((if_neg (lg_le_not_lt ((lg_cmp_ge _ _).mp h2))).symm) ?_
            exact j1
          · skip
            refine lv_lload hx hb dM_comes_259 (lv_at hl 0 rfl) ?_
            refine lv_goto (tgt := 276) hx hb dM_comes_261 (by decide) ?_
            refine gi_asl (y := (if fa j < (upTo (fun m x => if fa m < x then fa m else x) (8 * ps) le1 j) (8 * ps + j) then fa j else (upTo (fun m x => if fa m < x then fa m else x) (8 * ps) le1 j) (8 * ps + j))) ((if_pos (Int64.not_le.mp (fun z => h2 ((lg_cmp_ge _ _).mpr z)))).symm) ?_
            exact j1
    have hl := lv_sub hl [0, 1, 2, 3] rfl
    have hl : lv_has ls 7 [(4, .int (nI 0)), (2, .int (nI ps)), (0, .ref (b 0)), (1, .int nn)] := hl
    exact loop mn 0 (by omega) H locs hP hD hS ls hl
  refine lv_aload_n hx hb dM_comes_0 rfl (lv_at hl 0 rfl) ?_
  refine gi_callR (v := .int (nI ps)) (W.runV (As := []) (rest := []) ⟨hx, hb, hml, hown, hta⟩ (c_before l dC dI b d wn T.1 cd (nI mn) ks2 ct2 sm2 le2 gr2 fk fa ps hwn hn hlow) (cwV 0 hta (gV w337 w339 sM_before w2 w340) rfl rfl rfl (by decide +kernel) ⟨Nat.le_of_ble_eq_true rfl, Nat.le_of_ble_eq_true rfl⟩) ⟨gb_R, va_recv hK hP (ci := 1) (q0 := 0) rfl rfl, fun U hU hW => ⟨rfl, by rw [hU]; exact hP, va_K.moved hW.alike hK⟩⟩ rfl rfl hl.1 rfl (lv_room (Nat.le_of_ble_eq_true rfl)) dM_comes_1 ⟨Nat.le_of_ble_eq_true rfl, Nat.le_of_ble_eq_true rfl⟩) ?_
  refine lv_istore_n (lv' := [(2, .int (nI ps)), (0, .ref (b 0)), (1, .int nn)]) hx hb dM_comes_4 rfl hl (by decide) rfl (fun ls hl => ?_)
  refine lv_iload_n hx hb dM_comes_5 rfl (lv_at hl 0 rfl) ?_
  refine lv_aload_n hx hb dM_comes_6 rfl (lv_at hl 1 rfl) ?_
  refine va_get (D := (dC, dI)) (ci := 1) (v := .int (nI T.1)) (C := "GroupRowsModel") (T := FM) (N := 11) hx hb hta inM hown hK hP 0 rfl rfl 3 (by decide) (hta _ w281) (fun _ h9 => h9) rfl dM_comes_7 ?_
  refine lv_icmp_ge (tgt := 25) hx hb dM_comes_10 (by decide) (fun h1 => ?_) (fun h1 => ?_)
  · skip
    have h1 : T.1 ≤ ps := (nI_leI (by omega) (by omega)).mp h1
    have hc2 : ¬ (lowP wn T.1 T.2.1 fk < T.1 ∧ lx (T.2.1 (lowP wn T.1 T.2.1 fk)) fk wn 0 = 0) := by rw [← eps]; exact fun q => absurd q.1 (by omega)
    refine lv_iconst (v := 0) hx hb dM_comes_25 (by decide) ?_
    refine lv_istore_n (lv' := [(3, .int 0), (2, .int (nI ps)), (0, .ref (b 0)), (1, .int nn)]) hx hb dM_comes_26 rfl hl (by decide) rfl (fun ls hl => ?_)
    refine lv_iload_n hx hb dM_comes_27 rfl (lv_at hl 0 rfl) ?_
    refine lv_if_ne (tgt := 43) hx hb dM_comes_28 (by decide) (fun h5 => ?_) (fun h5 => ?_)
    · skip
      exact absurd rfl h5
    · skip
      refine lv_aload_n hx hb dM_comes_31 rfl (lv_at hl 2 rfl) ?_
      refine va_get (D := (dC, dI)) (ci := 1) (v := .int (nI T.1)) (C := "GroupRowsModel") (T := FM) (N := 11) hx hb hta inM hown hK hP 0 rfl rfl 3 (by decide) (hta _ w281) (fun _ h9 => h9) rfl dM_comes_32 ?_
      refine lv_sipush (v := 1000) hx hb dM_comes_35 (by decide) ?_
      refine lv_icmp_ne (tgt := 43) hx hb dM_comes_38 (by decide) (fun h6 => ?_) (fun h6 => ?_)
      · skip
        have h6 : T.1 < 1000 := by
          rcases Nat.lt_or_ge T.1 1000 with z | z
          · exact z
          · exact absurd (by rw [show T.1 = 1000 by omega]; rfl) h6
        have hne : ps < T.1 → ¬ keq wn (T.2.1 ps) fk := fun q1 q2 => hc2 (by rw [← eps]; exact ⟨q1, lx_eq.mpr q2⟩)
        have e9 := takeT_new (fa := fa) (nn := nn.toInt64) hc2 h6
        rw [← eps] at e9
        refine lv_iload_n hx hb dM_comes_43 rfl (lv_at hl 0 rfl) ?_
        refine lv_if_ne (tgt := 178) hx hb dM_comes_44 (by decide) (fun h7 => ?_) (fun h7 => ?_)
        · skip
          exact absurd rfl h7
        · skip
          refine lv_aload_n hx hb dM_comes_47 rfl (lv_at hl 2 rfl) ?_
          refine va_get (D := (dC, dI)) (ci := 1) (v := .int (nI T.1)) (C := "GroupRowsModel") (T := FM) (N := 11) hx hb hta inM hown hK hP 0 rfl rfl 3 (by decide) (hta _ w281) (fun _ h9 => h9) rfl dM_comes_48 ?_
          refine lv_istore (lv' := [(4, .int (nI T.1)), (3, .int 0), (2, .int (nI ps)), (0, .ref (b 0)), (1, .int nn)]) hx hb dM_comes_51 hl (by decide) rfl (fun ls hl => ?_)
          have shl : ∀ (kk kv : Nat) (ks1 : Nat → Int32) (ct1 sm1 le1 gr1 : Nat → Int64), ps + kk = kv → kv ≤ T.1 → shf ks2 ks1 T.1 kv → shc ct2 ct1 T.1 kv → shf sm2 sm1 T.1 kv → shf le2 le1 T.1 kv → shf gr2 gr1 T.1 kv → ∀ (H : Heap) (locs : List Loc), va_P (dC, dI) classes (wM b d cd (nI wn) (nI mn) (nI T.1) ks1 ct1 sm1 le1 gr1 fk fa) H → va_D A (wM b d cd (nI wn) (nI mn) (nI T.1) ks1 ct1 sm1 le1 gr1 fk fa) → va_S A s.heap H locs → ∀ (ls : Array Slot), lv_has ls 7 [(4, .int (nI kv)), (2, .int (nI ps)), (0, .ref (b 0)), (1, .int nn)] → W p l e (headSpec (Cond.code yM_comes bM_comes 7 (some .boolean) :: wAll) { frames := 2, cells := 0, slots := 0, locals := 96 }).room s m ([.ref (b 0), .int nn] : List Value).toArray below meth c H locs 0 0 (MQ below (va_Qi (fun (r9 : Int32) (_ : Unit) => r9 = (if (takeT wn fk fa nn.toInt64 T).2 = true then 1 else 0)) (fun (_ : Unit) (t9 : State) => atM dC dI A b d cd wn mn fk fa (takeT wn fk fa nn.toInt64 T).1 t9) A) ([.ref (b 0), .int nn] : List Value).toArray s 0 0 A) (F0 m 53 ls []) := by
            intro kk
            induction kk with
            | zero =>
              intro kv ks1 ct1 sm1 le1 gr1 hkv hkn s1 s2 s3 s4 s5 H locs hP hD hS ls hl
              refine lv_iload hx hb dM_comes_53 (lv_at hl 0 rfl) ?_
              refine lv_iload_n hx hb dM_comes_55 rfl (lv_at hl 1 rfl) ?_
              refine lv_icmp_le (tgt := 75) hx hb dM_comes_56 (by decide) (fun h8 => ?_) (fun h8 => ?_)
              · skip
                have hkv : ps = kv := by omega
                subst hkv
                refine lv_aload_n hx hb dM_comes_75 rfl (lv_at hl 2 rfl) ?_
                refine lv_dup hx hb dM_comes_76 rfl ?_
                refine va_get (D := (dC, dI)) (ci := 1) (v := .int (nI T.1)) (C := "GroupRowsModel") (T := FM) (N := 11) hx hb hta inM hown hK hP 0 rfl rfl 3 (by decide) (hta _ w281) (fun _ h9 => h9) rfl dM_comes_77 ?_
                refine lv_iconst (v := 1) hx hb dM_comes_80 (by decide) ?_
                refine lv_iadd hx hb dM_comes_81 ?_
                refine gi_as (y := nI (T.1 + 1)) (nI_1 _) ?_
                refine va_put (D := (dC, dI)) (ci := 1) (v := .int (nI (T.1 + 1))) (ty := .int) (C := "GroupRowsModel") (T := FM) (N := 11) hx hb hta inM tM tMok nM hown hK hP hD hS 0 rfl rfl 3 (by decide) (hta _ w281) (fun _ h9 => h9) rfl (by decide +kernel) rfl rfl (Nat.le_of_ble_eq_true rfl) dM_comes_82 (fun H locs hP hD hS => ?_)
                have hP : va_P (dC, dI) classes (wM b d cd (nI wn) (nI mn) (nI (T.1 + 1)) ks1 ct1 sm1 le1 gr1 fk fa) H := hP
                have hD : va_D A (wM b d cd (nI wn) (nI mn) (nI (T.1 + 1)) ks1 ct1 sm1 le1 gr1 fk fa) := hD
                refine lv_aload_n hx hb dM_comes_85 rfl (lv_at hl 2 rfl) ?_
                refine va_get (D := (dC, dI)) (ci := 1) (v := .ref (b 2)) (C := "GroupRowsModel") (T := FM) (N := 11) hx hb hta inM hown hK hP 0 rfl rfl 5 (by decide) (hta _ w283) (fun _ h9 => h9) rfl dM_comes_86 ?_
                refine lv_iload_n hx hb dM_comes_89 rfl (lv_at hl 1 rfl) ?_
                refine lv_lconst (v := 0) hx hb dM_comes_90 (by decide) ?_
                refine gi_last hx hb hK hP hD hS 2 1 rfl rfl (k := ps) (by omega) (by decide) dM_comes_91 (fun H locs hP hD hS => ?_)
                have hP : va_P (dC, dI) classes (wM b d cd (nI wn) (nI mn) (nI (T.1 + 1)) ks1 (vp_updL ct1 ps 0) sm1 le1 gr1 fk fa) H := hP
                have hD : va_D A (wM b d cd (nI wn) (nI mn) (nI (T.1 + 1)) ks1 (vp_updL ct1 ps 0) sm1 le1 gr1 fk fa) := hD
                refine lv_iconst (v := 0) hx hb dM_comes_92 (by decide) ?_
                refine gi_as (y := nI 0) (nI_0.symm) ?_
                refine lv_istore (lv' := [(4, .int (nI 0)), (2, .int (nI ps)), (0, .ref (b 0)), (1, .int nn)]) hx hb dM_comes_93 hl (by decide) rfl (fun ls hl => ?_)
                have ini : ∀ (kk j : Nat), j + kk = 8 → ∀ (H : Heap) (locs : List Loc), va_P (dC, dI) classes (wM b d cd (nI wn) (nI mn) (nI (T.1 + 1)) (upToI (fun m _ => fk m) (8 * ps) ks1 j) (vp_updL ct1 ps 0) (upTo (fun _ _ => 0) (8 * ps) sm1 j) (upTo (fun m _ => fa m) (8 * ps) le1 j) (upTo (fun m _ => fa m) (8 * ps) gr1 j) fk fa) H → va_D A (wM b d cd (nI wn) (nI mn) (nI (T.1 + 1)) (upToI (fun m _ => fk m) (8 * ps) ks1 j) (vp_updL ct1 ps 0) (upTo (fun _ _ => 0) (8 * ps) sm1 j) (upTo (fun m _ => fa m) (8 * ps) le1 j) (upTo (fun m _ => fa m) (8 * ps) gr1 j) fk fa) → va_S A s.heap H locs → ∀ (ls : Array Slot), lv_has ls 7 [(4, .int (nI j)), (2, .int (nI ps)), (0, .ref (b 0)), (1, .int nn)] → W p l e (headSpec (Cond.code yM_comes bM_comes 7 (some .boolean) :: wAll) { frames := 2, cells := 0, slots := 0, locals := 96 }).room s m ([.ref (b 0), .int nn] : List Value).toArray below meth c H locs 0 0 (MQ below (va_Qi (fun (r9 : Int32) (_ : Unit) => r9 = (if (takeT wn fk fa nn.toInt64 T).2 = true then 1 else 0)) (fun (_ : Unit) (t9 : State) => atM dC dI A b d cd wn mn fk fa (takeT wn fk fa nn.toInt64 T).1 t9) A) ([.ref (b 0), .int nn] : List Value).toArray s 0 0 A) (F0 m 95 ls []) := by
                  intro kk
                  induction kk with
                  | zero =>
                    intro j hj H locs hP hD hS ls hl
                    refine lv_iload hx hb dM_comes_95 (lv_at hl 0 rfl) ?_
                    refine lv_bipush (v := 8) hx hb dM_comes_97 (by decide) ?_
                    refine gi_as (y := nI 8) (rfl) ?_
                    refine lv_icmp_ge (tgt := 178) hx hb dM_comes_99 (by decide) (fun h9 => ?_) (fun h9 => ?_)
                    · skip
                      have hj : 8 = j := by omega
                      subst hj
                      have hl := lv_sub hl [1, 2, 3] rfl
                      have hl : lv_has ls 7 [(2, .int (nI ps)), (0, .ref (b 0)), (1, .int nn)] := hl
                      exact tail (T.1 + 1) _ _ _ _ _ (by omega) (by rw [e9]; rfl) (by rw [e9]) (by rw [e9]; exact repM_new hrep h6 hlow2 hne s1 s2 s3 s4 s5) H locs hP hD hS ls hl
                    · skip
                      exact absurd (nI_le (by omega) (by omega)) h9
                  | succ kk ih2 =>
                    intro j hj H locs hP hD hS ls hl
                    refine lv_iload hx hb dM_comes_95 (lv_at hl 0 rfl) ?_
                    refine lv_bipush (v := 8) hx hb dM_comes_97 (by decide) ?_
                    refine gi_as (y := nI 8) (rfl) ?_
                    refine lv_icmp_ge (tgt := 178) hx hb dM_comes_99 (by decide) (fun h9 => ?_) (fun h9 => ?_)
                    · skip
                      exact absurd h9 (nI_ge (a := j) (by omega) (by omega))
                    · skip
                      refine lv_aload_n hx hb dM_comes_102 rfl (lv_at hl 2 rfl) ?_
                      refine va_get (D := (dC, dI)) (ci := 1) (v := .ref (b 1)) (C := "GroupRowsModel") (T := FM) (N := 11) hx hb hta inM hown hK hP 0 rfl rfl 4 (by decide) (hta _ w282) (fun _ h9 => h9) rfl dM_comes_103 ?_
                      refine lv_bipush (v := 8) hx hb dM_comes_106 (by decide) ?_
                      refine lv_iload_n hx hb dM_comes_108 rfl (lv_at hl 1 rfl) ?_
                      refine lv_imul hx hb dM_comes_109 ?_
                      refine gi_as (y := nI (8 * ps)) (gi_8mul _) ?_
                      refine lv_iload hx hb dM_comes_110 (lv_at hl 0 rfl) ?_
                      refine lv_iadd hx hb dM_comes_112 ?_
                      refine gi_as (y := nI ((8 * ps) + j)) (nI_add _ _) ?_
                      refine lv_aload_n hx hb dM_comes_113 rfl (lv_at hl 2 rfl) ?_
                      refine va_get (D := (dC, dI)) (ci := 1) (v := .ref (b 6)) (C := "GroupRowsModel") (T := FM) (N := 11) hx hb hta inM hown hK hP 0 rfl rfl 9 (by decide) (hta _ w287) (fun _ h9 => h9) rfl dM_comes_114 ?_
                      refine lv_iload hx hb dM_comes_117 (lv_at hl 0 rfl) ?_
                      refine gi_iald hx hb hK hP 6 5 rfl rfl (k := j) (by omega) (by decide) dM_comes_119 ?_
                      refine gi_iast hx hb hK hP hD hS 1 0 rfl rfl (k := ((8 * ps) + j)) (by omega) (by decide) dM_comes_120 (fun H locs hP hD hS => ?_)
                      have hP : va_P (dC, dI) classes (wM b d cd (nI wn) (nI mn) (nI (T.1 + 1)) (upd (upToI (fun m _ => fk m) (8 * ps) ks1 j) ((8 * ps) + j) (fk j)) (vp_updL ct1 ps 0) (upTo (fun _ _ => 0) (8 * ps) sm1 j) (upTo (fun m _ => fa m) (8 * ps) le1 j) (upTo (fun m _ => fa m) (8 * ps) gr1 j) fk fa) H := hP
                      have hD : va_D A (wM b d cd (nI wn) (nI mn) (nI (T.1 + 1)) (upd (upToI (fun m _ => fk m) (8 * ps) ks1 j) ((8 * ps) + j) (fk j)) (vp_updL ct1 ps 0) (upTo (fun _ _ => 0) (8 * ps) sm1 j) (upTo (fun m _ => fa m) (8 * ps) le1 j) (upTo (fun m _ => fa m) (8 * ps) gr1 j) fk fa) := hD
                      refine lv_aload_n hx hb dM_comes_121 rfl (lv_at hl 2 rfl) ?_
                      refine va_get (D := (dC, dI)) (ci := 1) (v := .ref (b 3)) (C := "GroupRowsModel") (T := FM) (N := 11) hx hb hta inM hown hK hP 0 rfl rfl 6 (by decide) (hta _ w284) (fun _ h9 => h9) rfl dM_comes_122 ?_
                      refine lv_bipush (v := 8) hx hb dM_comes_125 (by decide) ?_
                      refine lv_iload_n hx hb dM_comes_127 rfl (lv_at hl 1 rfl) ?_
                      refine lv_imul hx hb dM_comes_128 ?_
                      refine gi_as (y := nI (8 * ps)) (gi_8mul _) ?_
                      refine lv_iload hx hb dM_comes_129 (lv_at hl 0 rfl) ?_
                      refine lv_iadd hx hb dM_comes_131 ?_
                      refine gi_as (y := nI ((8 * ps) + j)) (nI_add _ _) ?_
                      refine lv_lconst (v := 0) hx hb dM_comes_132 (by decide) ?_
                      refine gi_last hx hb hK hP hD hS 3 2 rfl rfl (k := ((8 * ps) + j)) (by omega) (by decide) dM_comes_133 (fun H locs hP hD hS => ?_)
                      have hP : va_P (dC, dI) classes (wM b d cd (nI wn) (nI mn) (nI (T.1 + 1)) (upd (upToI (fun m _ => fk m) (8 * ps) ks1 j) ((8 * ps) + j) (fk j)) (vp_updL ct1 ps 0) (vp_updL (upTo (fun _ _ => 0) (8 * ps) sm1 j) ((8 * ps) + j) 0) (upTo (fun m _ => fa m) (8 * ps) le1 j) (upTo (fun m _ => fa m) (8 * ps) gr1 j) fk fa) H := hP
                      have hD : va_D A (wM b d cd (nI wn) (nI mn) (nI (T.1 + 1)) (upd (upToI (fun m _ => fk m) (8 * ps) ks1 j) ((8 * ps) + j) (fk j)) (vp_updL ct1 ps 0) (vp_updL (upTo (fun _ _ => 0) (8 * ps) sm1 j) ((8 * ps) + j) 0) (upTo (fun m _ => fa m) (8 * ps) le1 j) (upTo (fun m _ => fa m) (8 * ps) gr1 j) fk fa) := hD
                      refine lv_aload_n hx hb dM_comes_134 rfl (lv_at hl 2 rfl) ?_
                      refine va_get (D := (dC, dI)) (ci := 1) (v := .ref (b 4)) (C := "GroupRowsModel") (T := FM) (N := 11) hx hb hta inM hown hK hP 0 rfl rfl 7 (by decide) (hta _ w285) (fun _ h9 => h9) rfl dM_comes_135 ?_
                      refine lv_bipush (v := 8) hx hb dM_comes_138 (by decide) ?_
                      refine lv_iload_n hx hb dM_comes_140 rfl (lv_at hl 1 rfl) ?_
                      refine lv_imul hx hb dM_comes_141 ?_
                      refine gi_as (y := nI (8 * ps)) (gi_8mul _) ?_
                      refine lv_iload hx hb dM_comes_142 (lv_at hl 0 rfl) ?_
                      refine lv_iadd hx hb dM_comes_144 ?_
                      refine gi_as (y := nI ((8 * ps) + j)) (nI_add _ _) ?_
                      refine lv_aload_n hx hb dM_comes_145 rfl (lv_at hl 2 rfl) ?_
                      refine va_get (D := (dC, dI)) (ci := 1) (v := .ref (b 7)) (C := "GroupRowsModel") (T := FM) (N := 11) hx hb hta inM hown hK hP 0 rfl rfl 10 (by decide) (hta _ w288) (fun _ h9 => h9) rfl dM_comes_146 ?_
                      refine lv_iload hx hb dM_comes_149 (lv_at hl 0 rfl) ?_
                      refine gi_lald hx hb hK hP 7 6 rfl rfl (k := j) (by omega) (by decide) dM_comes_151 ?_
                      refine gi_last hx hb hK hP hD hS 4 3 rfl rfl (k := ((8 * ps) + j)) (by omega) (by decide) dM_comes_152 (fun H locs hP hD hS => ?_)
                      have hP : va_P (dC, dI) classes (wM b d cd (nI wn) (nI mn) (nI (T.1 + 1)) (upd (upToI (fun m _ => fk m) (8 * ps) ks1 j) ((8 * ps) + j) (fk j)) (vp_updL ct1 ps 0) (vp_updL (upTo (fun _ _ => 0) (8 * ps) sm1 j) ((8 * ps) + j) 0) (vp_updL (upTo (fun m _ => fa m) (8 * ps) le1 j) ((8 * ps) + j) (fa j)) (upTo (fun m _ => fa m) (8 * ps) gr1 j) fk fa) H := hP
                      have hD : va_D A (wM b d cd (nI wn) (nI mn) (nI (T.1 + 1)) (upd (upToI (fun m _ => fk m) (8 * ps) ks1 j) ((8 * ps) + j) (fk j)) (vp_updL ct1 ps 0) (vp_updL (upTo (fun _ _ => 0) (8 * ps) sm1 j) ((8 * ps) + j) 0) (vp_updL (upTo (fun m _ => fa m) (8 * ps) le1 j) ((8 * ps) + j) (fa j)) (upTo (fun m _ => fa m) (8 * ps) gr1 j) fk fa) := hD
                      refine lv_aload_n hx hb dM_comes_153 rfl (lv_at hl 2 rfl) ?_
                      refine va_get (D := (dC, dI)) (ci := 1) (v := .ref (b 5)) (C := "GroupRowsModel") (T := FM) (N := 11) hx hb hta inM hown hK hP 0 rfl rfl 8 (by decide) (hta _ w286) (fun _ h9 => h9) rfl dM_comes_154 ?_
                      refine lv_bipush (v := 8) hx hb dM_comes_157 (by decide) ?_
                      refine lv_iload_n hx hb dM_comes_159 rfl (lv_at hl 1 rfl) ?_
                      refine lv_imul hx hb dM_comes_160 ?_
                      refine gi_as (y := nI (8 * ps)) (gi_8mul _) ?_
                      refine lv_iload hx hb dM_comes_161 (lv_at hl 0 rfl) ?_
                      refine lv_iadd hx hb dM_comes_163 ?_
                      refine gi_as (y := nI ((8 * ps) + j)) (nI_add _ _) ?_
                      refine lv_aload_n hx hb dM_comes_164 rfl (lv_at hl 2 rfl) ?_
                      refine va_get (D := (dC, dI)) (ci := 1) (v := .ref (b 7)) (C := "GroupRowsModel") (T := FM) (N := 11) hx hb hta inM hown hK hP 0 rfl rfl 10 (by decide) (hta _ w288) (fun _ h9 => h9) rfl dM_comes_165 ?_
                      refine lv_iload hx hb dM_comes_168 (lv_at hl 0 rfl) ?_
                      refine gi_lald hx hb hK hP 7 6 rfl rfl (k := j) (by omega) (by decide) dM_comes_170 ?_
                      refine gi_last hx hb hK hP hD hS 5 4 rfl rfl (k := ((8 * ps) + j)) (by omega) (by decide) dM_comes_171 (fun H locs hP hD hS => ?_)
                      have hP : va_P (dC, dI) classes (wM b d cd (nI wn) (nI mn) (nI (T.1 + 1)) (upd (upToI (fun m _ => fk m) (8 * ps) ks1 j) ((8 * ps) + j) (fk j)) (vp_updL ct1 ps 0) (vp_updL (upTo (fun _ _ => 0) (8 * ps) sm1 j) ((8 * ps) + j) 0) (vp_updL (upTo (fun m _ => fa m) (8 * ps) le1 j) ((8 * ps) + j) (fa j)) (vp_updL (upTo (fun m _ => fa m) (8 * ps) gr1 j) ((8 * ps) + j) (fa j)) fk fa) H := hP
                      have hD : va_D A (wM b d cd (nI wn) (nI mn) (nI (T.1 + 1)) (upd (upToI (fun m _ => fk m) (8 * ps) ks1 j) ((8 * ps) + j) (fk j)) (vp_updL ct1 ps 0) (vp_updL (upTo (fun _ _ => 0) (8 * ps) sm1 j) ((8 * ps) + j) 0) (vp_updL (upTo (fun m _ => fa m) (8 * ps) le1 j) ((8 * ps) + j) (fa j)) (vp_updL (upTo (fun m _ => fa m) (8 * ps) gr1 j) ((8 * ps) + j) (fa j)) fk fa) := hD
                      refine lv_iinc (v := (nI (j + 1))) (lv' := [(4, .int (nI (j + 1))), (2, .int (nI ps)), (0, .ref (b 0)), (1, .int nn)]) hx hb dM_comes_172 hl (k := 0) rfl (nI_1 _) (by decide) rfl (fun ls hl => ?_)
                      refine lv_goto (tgt := 95) hx hb dM_comes_175 (by decide) ?_
                      have hl := lv_sub hl [0, 1, 2, 3] rfl
                      have hl : lv_has ls 7 [(4, .int (nI (j + 1))), (2, .int (nI ps)), (0, .ref (b 0)), (1, .int nn)] := hl
                      exact ih2 (j + 1) (by omega) H locs hP hD hS ls hl
                have hl := lv_sub hl [0, 1, 2, 3] rfl
                have hl : lv_has ls 7 [(4, .int (nI 0)), (2, .int (nI ps)), (0, .ref (b 0)), (1, .int nn)] := hl
                exact ini 8 0 (by omega) H locs hP hD hS ls hl
              · skip
                exact absurd (nI_le (by omega) (by omega)) h8
            | succ kk ih =>
              intro kv ks1 ct1 sm1 le1 gr1 hkv hkn s1 s2 s3 s4 s5 H locs hP hD hS ls hl
              refine lv_iload hx hb dM_comes_53 (lv_at hl 0 rfl) ?_
              refine lv_iload_n hx hb dM_comes_55 rfl (lv_at hl 1 rfl) ?_
              refine lv_icmp_le (tgt := 75) hx hb dM_comes_56 (by decide) (fun h8 => ?_) (fun h8 => ?_)
              · skip
                exact absurd h8 (nI_ge (a := ps) (b := kv) (by omega) (by omega))
              · skip
                obtain ⟨k0, ek0⟩ : ∃ k0, kv = k0 + 1 := ⟨kv - 1, by omega⟩
                subst ek0
                refine lv_aload_n hx hb dM_comes_59 rfl (lv_at hl 2 rfl) ?_
                refine lv_iload hx hb dM_comes_60 (lv_at hl 0 rfl) ?_
                refine lv_iconst (v := 1) hx hb dM_comes_62 (by decide) ?_
                refine lv_isub hx hb dM_comes_63 ?_
                refine gi_as (y := nI k0) (nI_pred k0) ?_
                refine lv_iload hx hb dM_comes_64 (lv_at hl 0 rfl) ?_
                have hPc := hP
                have hDc := hD
                have hKc := hK
                have hFc := va_free (wc := (wM b d cd (nI wn) (nI mn) (nI T.1) ks1 ct1 sm1 le1 gr1 fk fa)) hD hS hA [0, 1, 2, 3, 4, 5, 6, 7] rfl
                refine va_callv (va_runV (As := [.int (nI k0), .int (nI (k0 + 1))]) (rest := []) ⟨hx, hb, hml, hown, hta⟩ (c_copy l dC dI b d cd (nI wn) (nI mn) (nI T.1) ks1 ct1 sm1 le1 gr1 fk fa k0 (k0 + 1) (by omega) (by omega) H.size) (cwV 2 hta (gV w345 w347 sM_copy w2 w348) rfl rfl rfl (by decide +kernel) ⟨Nat.le_of_ble_eq_true rfl, Nat.le_of_ble_eq_true rfl⟩) ⟨gb_W, va_recv hKc hPc (ci := 1) (q0 := 0) rfl rfl, fun U hU hW => ⟨rfl, by rw [hU], by rw [hU]; exact hPc, va_K.moved hW.alike hKc, hDc.weaken (fun _ _ _ _ => trivial)⟩⟩ rfl rfl hl.1 rfl (lv_room (Nat.le_of_ble_eq_true rfl)) dM_comes_66 ⟨Nat.le_of_ble_eq_true rfl, Nat.le_of_ble_eq_true rfl⟩) hS (fun q _ h => hFc q h) hFc (fun u t H1 locs ht hvm hw hB hz1 hk1 hS => ?_)
                obtain ⟨hP1, hK1, hD1⟩ := hB
                rw [ht] at hP1
                obtain ⟨hP, hD⟩ := va_join (wr := []) (w1 := (wM b d cd (nI wn) (nI mn) (nI T.1) (upToI (fun m _ => ks1 (8 * k0 + m)) (8 * (k0 + 1)) ks1 8) (vp_updL ct1 (k0 + 1) (ct1 k0)) (upTo (fun m _ => sm1 (8 * k0 + m)) (8 * (k0 + 1)) sm1 8) (upTo (fun m _ => le1 (8 * k0 + m)) (8 * (k0 + 1)) le1 8) (upTo (fun m _ => gr1 (8 * k0 + m)) (8 * (k0 + 1)) gr1 8) fk fa)) hP hD [0, 1, 2, 3, 4, 5, 6, 7] [] rfl rfl (by decide) (by decide) hk1 hFc hP1 hD1
                generalize H1 = H at hP hS ⊢
                have hP : va_P (dC, dI) classes (wM b d cd (nI wn) (nI mn) (nI T.1) (upToI (fun m _ => ks1 (8 * k0 + m)) (8 * (k0 + 1)) ks1 8) (vp_updL ct1 (k0 + 1) (ct1 k0)) (upTo (fun m _ => sm1 (8 * k0 + m)) (8 * (k0 + 1)) sm1 8) (upTo (fun m _ => le1 (8 * k0 + m)) (8 * (k0 + 1)) le1 8) (upTo (fun m _ => gr1 (8 * k0 + m)) (8 * (k0 + 1)) gr1 8) fk fa) H := hP
                have hD : va_D A (wM b d cd (nI wn) (nI mn) (nI T.1) (upToI (fun m _ => ks1 (8 * k0 + m)) (8 * (k0 + 1)) ks1 8) (vp_updL ct1 (k0 + 1) (ct1 k0)) (upTo (fun m _ => sm1 (8 * k0 + m)) (8 * (k0 + 1)) sm1 8) (upTo (fun m _ => le1 (8 * k0 + m)) (8 * (k0 + 1)) le1 8) (upTo (fun m _ => gr1 (8 * k0 + m)) (8 * (k0 + 1)) gr1 8) fk fa) := hD
                refine lv_iinc (v := (nI k0)) (lv' := [(4, .int (nI k0)), (2, .int (nI ps)), (0, .ref (b 0)), (1, .int nn)]) hx hb dM_comes_69 hl (k := 0) rfl (pk_m1 k0) (by decide) rfl (fun ls hl => ?_)
                refine lv_goto (tgt := 53) hx hb dM_comes_72 (by decide) ?_
                have hl := lv_sub hl [0, 1, 2, 3] rfl
                have hl : lv_has ls 7 [(4, .int (nI k0)), (2, .int (nI ps)), (0, .ref (b 0)), (1, .int nn)] := hl
                exact ih k0 _ _ _ _ _ (by omega) (by omega) (shf_I s1 hkn h6) (shc_L s2 hkn h6) (shf_L s3 hkn h6) (shf_L s4 hkn h6) (shf_L s5 hkn h6) H locs hP hD hS ls hl
          have hl := lv_sub hl [0, 2, 3, 4] rfl
          have hl : lv_has ls 7 [(4, .int (nI T.1)), (2, .int (nI ps)), (0, .ref (b 0)), (1, .int nn)] := hl
          exact shl (T.1 - ps) T.1 ks2 ct2 sm2 le2 gr2 (by omega) (Nat.le_refl _) (shf_0 _ _) (shc_0 _ _) (shf_0 _ _) (shf_0 _ _) (shf_0 _ _) s.heap [] hP hD hS ls hl
      · skip
        have h6 : ¬ T.1 < 1000 := fun q => by have := (nI_eq (a := T.1) (b := 1000) (by omega) (by decide)).mp h6; omega
        refine lv_iconst (v := 0) hx hb dM_comes_41 (by decide) ?_
        have e9 := takeT_full (fa := fa) (nn := nn.toInt64) hc2 h6
        exact W.zret (v := 0) hx hb hr rfl (fun t9 ht9 hW9 => ⟨⟨0, (), rfl, by rw [e9]; rfl, by rw [e9]; exact ⟨_, _, _, _, _, hrep, by rw [ht9]; exact hP, va_K.moved hW9.alike hK, hD⟩⟩, hS.F ht9⟩) hS.2.2 dM_comes_42
  · skip
    have h1 : ps < T.1 := by
      rcases Nat.lt_or_ge ps T.1 with z | z
      · exact z
      · exact absurd (nI_le z (by omega)) h1
    refine lv_aload_n hx hb dM_comes_13 rfl (lv_at hl 1 rfl) ?_
    refine lv_iload_n hx hb dM_comes_14 rfl (lv_at hl 0 rfl) ?_
    refine gi_callR (v := .int (lx fk (fun i => ks2 (8 * ps + i)) wn 0)) (W.runV (As := [.int (nI ps)]) (rest := []) ⟨hx, hb, hml, hown, hta⟩ (c_against l dC dI b d wn cd (nI mn) (nI T.1) ks2 ct2 sm2 le2 gr2 fk fa ps hwn (by omega)) (cwV 1 hta (gV w341 w343 sM_against w2 w344) rfl rfl rfl (by decide +kernel) ⟨Nat.le_of_ble_eq_true rfl, Nat.le_of_ble_eq_true rfl⟩) ⟨gb_R, va_recv hK hP (ci := 1) (q0 := 0) rfl rfl, fun U hU hW => ⟨rfl, by rw [hU]; exact hP, va_K.moved hW.alike hK⟩⟩ rfl rfl hl.1 rfl (lv_room (Nat.le_of_ble_eq_true rfl)) dM_comes_15 ⟨Nat.le_of_ble_eq_true rfl, Nat.le_of_ble_eq_true rfl⟩) ?_
    refine lv_if_ne (tgt := 25) hx hb dM_comes_18 (by decide) (fun h2 => ?_) (fun h2 => ?_)
    · skip
      have hc2 : ¬ (lowP wn T.1 T.2.1 fk < T.1 ∧ lx (T.2.1 (lowP wn T.1 T.2.1 fk)) fk wn 0 = 0) := by rw [← eps]; exact fun q => h2 ((repM_has hrep h1).mpr q.2)
      refine lv_iconst (v := 0) hx hb dM_comes_25 (by decide) ?_
      refine lv_istore_n (lv' := [(3, .int 0), (2, .int (nI ps)), (0, .ref (b 0)), (1, .int nn)]) hx hb dM_comes_26 rfl hl (by decide) rfl (fun ls hl => ?_)
      refine lv_iload_n hx hb dM_comes_27 rfl (lv_at hl 0 rfl) ?_
      refine lv_if_ne (tgt := 43) hx hb dM_comes_28 (by decide) (fun h5 => ?_) (fun h5 => ?_)
      · skip
        exact absurd rfl h5
      · skip
        refine lv_aload_n hx hb dM_comes_31 rfl (lv_at hl 2 rfl) ?_
        refine va_get (D := (dC, dI)) (ci := 1) (v := .int (nI T.1)) (C := "GroupRowsModel") (T := FM) (N := 11) hx hb hta inM hown hK hP 0 rfl rfl 3 (by decide) (hta _ w281) (fun _ h9 => h9) rfl dM_comes_32 ?_
        refine lv_sipush (v := 1000) hx hb dM_comes_35 (by decide) ?_
        refine lv_icmp_ne (tgt := 43) hx hb dM_comes_38 (by decide) (fun h6 => ?_) (fun h6 => ?_)
        · skip
          have h6 : T.1 < 1000 := by
            rcases Nat.lt_or_ge T.1 1000 with z | z
            · exact z
            · exact absurd (by rw [show T.1 = 1000 by omega]; rfl) h6
          have hne : ps < T.1 → ¬ keq wn (T.2.1 ps) fk := fun q1 q2 => hc2 (by rw [← eps]; exact ⟨q1, lx_eq.mpr q2⟩)
          have e9 := takeT_new (fa := fa) (nn := nn.toInt64) hc2 h6
          rw [← eps] at e9
          refine lv_iload_n hx hb dM_comes_43 rfl (lv_at hl 0 rfl) ?_
          refine lv_if_ne (tgt := 178) hx hb dM_comes_44 (by decide) (fun h7 => ?_) (fun h7 => ?_)
          · skip
            exact absurd rfl h7
          · skip
            refine lv_aload_n hx hb dM_comes_47 rfl (lv_at hl 2 rfl) ?_
            refine va_get (D := (dC, dI)) (ci := 1) (v := .int (nI T.1)) (C := "GroupRowsModel") (T := FM) (N := 11) hx hb hta inM hown hK hP 0 rfl rfl 3 (by decide) (hta _ w281) (fun _ h9 => h9) rfl dM_comes_48 ?_
            refine lv_istore (lv' := [(4, .int (nI T.1)), (3, .int 0), (2, .int (nI ps)), (0, .ref (b 0)), (1, .int nn)]) hx hb dM_comes_51 hl (by decide) rfl (fun ls hl => ?_)
            have shl : ∀ (kk kv : Nat) (ks1 : Nat → Int32) (ct1 sm1 le1 gr1 : Nat → Int64), ps + kk = kv → kv ≤ T.1 → shf ks2 ks1 T.1 kv → shc ct2 ct1 T.1 kv → shf sm2 sm1 T.1 kv → shf le2 le1 T.1 kv → shf gr2 gr1 T.1 kv → ∀ (H : Heap) (locs : List Loc), va_P (dC, dI) classes (wM b d cd (nI wn) (nI mn) (nI T.1) ks1 ct1 sm1 le1 gr1 fk fa) H → va_D A (wM b d cd (nI wn) (nI mn) (nI T.1) ks1 ct1 sm1 le1 gr1 fk fa) → va_S A s.heap H locs → ∀ (ls : Array Slot), lv_has ls 7 [(4, .int (nI kv)), (2, .int (nI ps)), (0, .ref (b 0)), (1, .int nn)] → W p l e (headSpec (Cond.code yM_comes bM_comes 7 (some .boolean) :: wAll) { frames := 2, cells := 0, slots := 0, locals := 96 }).room s m ([.ref (b 0), .int nn] : List Value).toArray below meth c H locs 0 0 (MQ below (va_Qi (fun (r9 : Int32) (_ : Unit) => r9 = (if (takeT wn fk fa nn.toInt64 T).2 = true then 1 else 0)) (fun (_ : Unit) (t9 : State) => atM dC dI A b d cd wn mn fk fa (takeT wn fk fa nn.toInt64 T).1 t9) A) ([.ref (b 0), .int nn] : List Value).toArray s 0 0 A) (F0 m 53 ls []) := by
              intro kk
              induction kk with
              | zero =>
                intro kv ks1 ct1 sm1 le1 gr1 hkv hkn s1 s2 s3 s4 s5 H locs hP hD hS ls hl
                refine lv_iload hx hb dM_comes_53 (lv_at hl 0 rfl) ?_
                refine lv_iload_n hx hb dM_comes_55 rfl (lv_at hl 1 rfl) ?_
                refine lv_icmp_le (tgt := 75) hx hb dM_comes_56 (by decide) (fun h8 => ?_) (fun h8 => ?_)
                · skip
                  have hkv : ps = kv := by omega
                  subst hkv
                  refine lv_aload_n hx hb dM_comes_75 rfl (lv_at hl 2 rfl) ?_
                  refine lv_dup hx hb dM_comes_76 rfl ?_
                  refine va_get (D := (dC, dI)) (ci := 1) (v := .int (nI T.1)) (C := "GroupRowsModel") (T := FM) (N := 11) hx hb hta inM hown hK hP 0 rfl rfl 3 (by decide) (hta _ w281) (fun _ h9 => h9) rfl dM_comes_77 ?_
                  refine lv_iconst (v := 1) hx hb dM_comes_80 (by decide) ?_
                  refine lv_iadd hx hb dM_comes_81 ?_
                  refine gi_as (y := nI (T.1 + 1)) (nI_1 _) ?_
                  refine va_put (D := (dC, dI)) (ci := 1) (v := .int (nI (T.1 + 1))) (ty := .int) (C := "GroupRowsModel") (T := FM) (N := 11) hx hb hta inM tM tMok nM hown hK hP hD hS 0 rfl rfl 3 (by decide) (hta _ w281) (fun _ h9 => h9) rfl (by decide +kernel) rfl rfl (Nat.le_of_ble_eq_true rfl) dM_comes_82 (fun H locs hP hD hS => ?_)
                  have hP : va_P (dC, dI) classes (wM b d cd (nI wn) (nI mn) (nI (T.1 + 1)) ks1 ct1 sm1 le1 gr1 fk fa) H := hP
                  have hD : va_D A (wM b d cd (nI wn) (nI mn) (nI (T.1 + 1)) ks1 ct1 sm1 le1 gr1 fk fa) := hD
                  refine lv_aload_n hx hb dM_comes_85 rfl (lv_at hl 2 rfl) ?_
                  refine va_get (D := (dC, dI)) (ci := 1) (v := .ref (b 2)) (C := "GroupRowsModel") (T := FM) (N := 11) hx hb hta inM hown hK hP 0 rfl rfl 5 (by decide) (hta _ w283) (fun _ h9 => h9) rfl dM_comes_86 ?_
                  refine lv_iload_n hx hb dM_comes_89 rfl (lv_at hl 1 rfl) ?_
                  refine lv_lconst (v := 0) hx hb dM_comes_90 (by decide) ?_
                  refine gi_last hx hb hK hP hD hS 2 1 rfl rfl (k := ps) (by omega) (by decide) dM_comes_91 (fun H locs hP hD hS => ?_)
                  have hP : va_P (dC, dI) classes (wM b d cd (nI wn) (nI mn) (nI (T.1 + 1)) ks1 (vp_updL ct1 ps 0) sm1 le1 gr1 fk fa) H := hP
                  have hD : va_D A (wM b d cd (nI wn) (nI mn) (nI (T.1 + 1)) ks1 (vp_updL ct1 ps 0) sm1 le1 gr1 fk fa) := hD
                  refine lv_iconst (v := 0) hx hb dM_comes_92 (by decide) ?_
                  refine gi_as (y := nI 0) (nI_0.symm) ?_
                  refine lv_istore (lv' := [(4, .int (nI 0)), (2, .int (nI ps)), (0, .ref (b 0)), (1, .int nn)]) hx hb dM_comes_93 hl (by decide) rfl (fun ls hl => ?_)
                  have ini : ∀ (kk j : Nat), j + kk = 8 → ∀ (H : Heap) (locs : List Loc), va_P (dC, dI) classes (wM b d cd (nI wn) (nI mn) (nI (T.1 + 1)) (upToI (fun m _ => fk m) (8 * ps) ks1 j) (vp_updL ct1 ps 0) (upTo (fun _ _ => 0) (8 * ps) sm1 j) (upTo (fun m _ => fa m) (8 * ps) le1 j) (upTo (fun m _ => fa m) (8 * ps) gr1 j) fk fa) H → va_D A (wM b d cd (nI wn) (nI mn) (nI (T.1 + 1)) (upToI (fun m _ => fk m) (8 * ps) ks1 j) (vp_updL ct1 ps 0) (upTo (fun _ _ => 0) (8 * ps) sm1 j) (upTo (fun m _ => fa m) (8 * ps) le1 j) (upTo (fun m _ => fa m) (8 * ps) gr1 j) fk fa) → va_S A s.heap H locs → ∀ (ls : Array Slot), lv_has ls 7 [(4, .int (nI j)), (2, .int (nI ps)), (0, .ref (b 0)), (1, .int nn)] → W p l e (headSpec (Cond.code yM_comes bM_comes 7 (some .boolean) :: wAll) { frames := 2, cells := 0, slots := 0, locals := 96 }).room s m ([.ref (b 0), .int nn] : List Value).toArray below meth c H locs 0 0 (MQ below (va_Qi (fun (r9 : Int32) (_ : Unit) => r9 = (if (takeT wn fk fa nn.toInt64 T).2 = true then 1 else 0)) (fun (_ : Unit) (t9 : State) => atM dC dI A b d cd wn mn fk fa (takeT wn fk fa nn.toInt64 T).1 t9) A) ([.ref (b 0), .int nn] : List Value).toArray s 0 0 A) (F0 m 95 ls []) := by
                    intro kk
                    induction kk with
                    | zero =>
                      intro j hj H locs hP hD hS ls hl
                      refine lv_iload hx hb dM_comes_95 (lv_at hl 0 rfl) ?_
                      refine lv_bipush (v := 8) hx hb dM_comes_97 (by decide) ?_
                      refine gi_as (y := nI 8) (rfl) ?_
                      refine lv_icmp_ge (tgt := 178) hx hb dM_comes_99 (by decide) (fun h9 => ?_) (fun h9 => ?_)
                      · skip
                        have hj : 8 = j := by omega
                        subst hj
                        have hl := lv_sub hl [1, 2, 3] rfl
                        have hl : lv_has ls 7 [(2, .int (nI ps)), (0, .ref (b 0)), (1, .int nn)] := hl
                        exact tail (T.1 + 1) _ _ _ _ _ (by omega) (by rw [e9]; rfl) (by rw [e9]) (by rw [e9]; exact repM_new hrep h6 hlow2 hne s1 s2 s3 s4 s5) H locs hP hD hS ls hl
                      · skip
                        exact absurd (nI_le (by omega) (by omega)) h9
                    | succ kk ih2 =>
                      intro j hj H locs hP hD hS ls hl
                      refine lv_iload hx hb dM_comes_95 (lv_at hl 0 rfl) ?_
                      refine lv_bipush (v := 8) hx hb dM_comes_97 (by decide) ?_
                      refine gi_as (y := nI 8) (rfl) ?_
                      refine lv_icmp_ge (tgt := 178) hx hb dM_comes_99 (by decide) (fun h9 => ?_) (fun h9 => ?_)
                      · skip
                        exact absurd h9 (nI_ge (a := j) (by omega) (by omega))
                      · skip
                        refine lv_aload_n hx hb dM_comes_102 rfl (lv_at hl 2 rfl) ?_
                        refine va_get (D := (dC, dI)) (ci := 1) (v := .ref (b 1)) (C := "GroupRowsModel") (T := FM) (N := 11) hx hb hta inM hown hK hP 0 rfl rfl 4 (by decide) (hta _ w282) (fun _ h9 => h9) rfl dM_comes_103 ?_
                        refine lv_bipush (v := 8) hx hb dM_comes_106 (by decide) ?_
                        refine lv_iload_n hx hb dM_comes_108 rfl (lv_at hl 1 rfl) ?_
                        refine lv_imul hx hb dM_comes_109 ?_
                        refine gi_as (y := nI (8 * ps)) (gi_8mul _) ?_
                        refine lv_iload hx hb dM_comes_110 (lv_at hl 0 rfl) ?_
                        refine lv_iadd hx hb dM_comes_112 ?_
                        refine gi_as (y := nI ((8 * ps) + j)) (nI_add _ _) ?_
                        refine lv_aload_n hx hb dM_comes_113 rfl (lv_at hl 2 rfl) ?_
                        refine va_get (D := (dC, dI)) (ci := 1) (v := .ref (b 6)) (C := "GroupRowsModel") (T := FM) (N := 11) hx hb hta inM hown hK hP 0 rfl rfl 9 (by decide) (hta _ w287) (fun _ h9 => h9) rfl dM_comes_114 ?_
                        refine lv_iload hx hb dM_comes_117 (lv_at hl 0 rfl) ?_
                        refine gi_iald hx hb hK hP 6 5 rfl rfl (k := j) (by omega) (by decide) dM_comes_119 ?_
                        refine gi_iast hx hb hK hP hD hS 1 0 rfl rfl (k := ((8 * ps) + j)) (by omega) (by decide) dM_comes_120 (fun H locs hP hD hS => ?_)
                        have hP : va_P (dC, dI) classes (wM b d cd (nI wn) (nI mn) (nI (T.1 + 1)) (upd (upToI (fun m _ => fk m) (8 * ps) ks1 j) ((8 * ps) + j) (fk j)) (vp_updL ct1 ps 0) (upTo (fun _ _ => 0) (8 * ps) sm1 j) (upTo (fun m _ => fa m) (8 * ps) le1 j) (upTo (fun m _ => fa m) (8 * ps) gr1 j) fk fa) H := hP
                        have hD : va_D A (wM b d cd (nI wn) (nI mn) (nI (T.1 + 1)) (upd (upToI (fun m _ => fk m) (8 * ps) ks1 j) ((8 * ps) + j) (fk j)) (vp_updL ct1 ps 0) (upTo (fun _ _ => 0) (8 * ps) sm1 j) (upTo (fun m _ => fa m) (8 * ps) le1 j) (upTo (fun m _ => fa m) (8 * ps) gr1 j) fk fa) := hD
                        refine lv_aload_n hx hb dM_comes_121 rfl (lv_at hl 2 rfl) ?_
                        refine va_get (D := (dC, dI)) (ci := 1) (v := .ref (b 3)) (C := "GroupRowsModel") (T := FM) (N := 11) hx hb hta inM hown hK hP 0 rfl rfl 6 (by decide) (hta _ w284) (fun _ h9 => h9) rfl dM_comes_122 ?_
                        refine lv_bipush (v := 8) hx hb dM_comes_125 (by decide) ?_
                        refine lv_iload_n hx hb dM_comes_127 rfl (lv_at hl 1 rfl) ?_
                        refine lv_imul hx hb dM_comes_128 ?_
                        refine gi_as (y := nI (8 * ps)) (gi_8mul _) ?_
                        refine lv_iload hx hb dM_comes_129 (lv_at hl 0 rfl) ?_
                        refine lv_iadd hx hb dM_comes_131 ?_
                        refine gi_as (y := nI ((8 * ps) + j)) (nI_add _ _) ?_
                        refine lv_lconst (v := 0) hx hb dM_comes_132 (by decide) ?_
                        refine gi_last hx hb hK hP hD hS 3 2 rfl rfl (k := ((8 * ps) + j)) (by omega) (by decide) dM_comes_133 (fun H locs hP hD hS => ?_)
                        have hP : va_P (dC, dI) classes (wM b d cd (nI wn) (nI mn) (nI (T.1 + 1)) (upd (upToI (fun m _ => fk m) (8 * ps) ks1 j) ((8 * ps) + j) (fk j)) (vp_updL ct1 ps 0) (vp_updL (upTo (fun _ _ => 0) (8 * ps) sm1 j) ((8 * ps) + j) 0) (upTo (fun m _ => fa m) (8 * ps) le1 j) (upTo (fun m _ => fa m) (8 * ps) gr1 j) fk fa) H := hP
                        have hD : va_D A (wM b d cd (nI wn) (nI mn) (nI (T.1 + 1)) (upd (upToI (fun m _ => fk m) (8 * ps) ks1 j) ((8 * ps) + j) (fk j)) (vp_updL ct1 ps 0) (vp_updL (upTo (fun _ _ => 0) (8 * ps) sm1 j) ((8 * ps) + j) 0) (upTo (fun m _ => fa m) (8 * ps) le1 j) (upTo (fun m _ => fa m) (8 * ps) gr1 j) fk fa) := hD
                        refine lv_aload_n hx hb dM_comes_134 rfl (lv_at hl 2 rfl) ?_
                        refine va_get (D := (dC, dI)) (ci := 1) (v := .ref (b 4)) (C := "GroupRowsModel") (T := FM) (N := 11) hx hb hta inM hown hK hP 0 rfl rfl 7 (by decide) (hta _ w285) (fun _ h9 => h9) rfl dM_comes_135 ?_
                        refine lv_bipush (v := 8) hx hb dM_comes_138 (by decide) ?_
                        refine lv_iload_n hx hb dM_comes_140 rfl (lv_at hl 1 rfl) ?_
                        refine lv_imul hx hb dM_comes_141 ?_
                        refine gi_as (y := nI (8 * ps)) (gi_8mul _) ?_
                        refine lv_iload hx hb dM_comes_142 (lv_at hl 0 rfl) ?_
                        refine lv_iadd hx hb dM_comes_144 ?_
                        refine gi_as (y := nI ((8 * ps) + j)) (nI_add _ _) ?_
                        refine lv_aload_n hx hb dM_comes_145 rfl (lv_at hl 2 rfl) ?_
                        refine va_get (D := (dC, dI)) (ci := 1) (v := .ref (b 7)) (C := "GroupRowsModel") (T := FM) (N := 11) hx hb hta inM hown hK hP 0 rfl rfl 10 (by decide) (hta _ w288) (fun _ h9 => h9) rfl dM_comes_146 ?_
                        refine lv_iload hx hb dM_comes_149 (lv_at hl 0 rfl) ?_
                        refine gi_lald hx hb hK hP 7 6 rfl rfl (k := j) (by omega) (by decide) dM_comes_151 ?_
                        refine gi_last hx hb hK hP hD hS 4 3 rfl rfl (k := ((8 * ps) + j)) (by omega) (by decide) dM_comes_152 (fun H locs hP hD hS => ?_)
                        have hP : va_P (dC, dI) classes (wM b d cd (nI wn) (nI mn) (nI (T.1 + 1)) (upd (upToI (fun m _ => fk m) (8 * ps) ks1 j) ((8 * ps) + j) (fk j)) (vp_updL ct1 ps 0) (vp_updL (upTo (fun _ _ => 0) (8 * ps) sm1 j) ((8 * ps) + j) 0) (vp_updL (upTo (fun m _ => fa m) (8 * ps) le1 j) ((8 * ps) + j) (fa j)) (upTo (fun m _ => fa m) (8 * ps) gr1 j) fk fa) H := hP
                        have hD : va_D A (wM b d cd (nI wn) (nI mn) (nI (T.1 + 1)) (upd (upToI (fun m _ => fk m) (8 * ps) ks1 j) ((8 * ps) + j) (fk j)) (vp_updL ct1 ps 0) (vp_updL (upTo (fun _ _ => 0) (8 * ps) sm1 j) ((8 * ps) + j) 0) (vp_updL (upTo (fun m _ => fa m) (8 * ps) le1 j) ((8 * ps) + j) (fa j)) (upTo (fun m _ => fa m) (8 * ps) gr1 j) fk fa) := hD
                        refine lv_aload_n hx hb dM_comes_153 rfl (lv_at hl 2 rfl) ?_
                        refine va_get (D := (dC, dI)) (ci := 1) (v := .ref (b 5)) (C := "GroupRowsModel") (T := FM) (N := 11) hx hb hta inM hown hK hP 0 rfl rfl 8 (by decide) (hta _ w286) (fun _ h9 => h9) rfl dM_comes_154 ?_
                        refine lv_bipush (v := 8) hx hb dM_comes_157 (by decide) ?_
                        refine lv_iload_n hx hb dM_comes_159 rfl (lv_at hl 1 rfl) ?_
                        refine lv_imul hx hb dM_comes_160 ?_
                        refine gi_as (y := nI (8 * ps)) (gi_8mul _) ?_
                        refine lv_iload hx hb dM_comes_161 (lv_at hl 0 rfl) ?_
                        refine lv_iadd hx hb dM_comes_163 ?_
                        refine gi_as (y := nI ((8 * ps) + j)) (nI_add _ _) ?_
                        refine lv_aload_n hx hb dM_comes_164 rfl (lv_at hl 2 rfl) ?_
                        refine va_get (D := (dC, dI)) (ci := 1) (v := .ref (b 7)) (C := "GroupRowsModel") (T := FM) (N := 11) hx hb hta inM hown hK hP 0 rfl rfl 10 (by decide) (hta _ w288) (fun _ h9 => h9) rfl dM_comes_165 ?_
                        refine lv_iload hx hb dM_comes_168 (lv_at hl 0 rfl) ?_
                        refine gi_lald hx hb hK hP 7 6 rfl rfl (k := j) (by omega) (by decide) dM_comes_170 ?_
                        refine gi_last hx hb hK hP hD hS 5 4 rfl rfl (k := ((8 * ps) + j)) (by omega) (by decide) dM_comes_171 (fun H locs hP hD hS => ?_)
                        have hP : va_P (dC, dI) classes (wM b d cd (nI wn) (nI mn) (nI (T.1 + 1)) (upd (upToI (fun m _ => fk m) (8 * ps) ks1 j) ((8 * ps) + j) (fk j)) (vp_updL ct1 ps 0) (vp_updL (upTo (fun _ _ => 0) (8 * ps) sm1 j) ((8 * ps) + j) 0) (vp_updL (upTo (fun m _ => fa m) (8 * ps) le1 j) ((8 * ps) + j) (fa j)) (vp_updL (upTo (fun m _ => fa m) (8 * ps) gr1 j) ((8 * ps) + j) (fa j)) fk fa) H := hP
                        have hD : va_D A (wM b d cd (nI wn) (nI mn) (nI (T.1 + 1)) (upd (upToI (fun m _ => fk m) (8 * ps) ks1 j) ((8 * ps) + j) (fk j)) (vp_updL ct1 ps 0) (vp_updL (upTo (fun _ _ => 0) (8 * ps) sm1 j) ((8 * ps) + j) 0) (vp_updL (upTo (fun m _ => fa m) (8 * ps) le1 j) ((8 * ps) + j) (fa j)) (vp_updL (upTo (fun m _ => fa m) (8 * ps) gr1 j) ((8 * ps) + j) (fa j)) fk fa) := hD
                        refine lv_iinc (v := (nI (j + 1))) (lv' := [(4, .int (nI (j + 1))), (2, .int (nI ps)), (0, .ref (b 0)), (1, .int nn)]) hx hb dM_comes_172 hl (k := 0) rfl (nI_1 _) (by decide) rfl (fun ls hl => ?_)
                        refine lv_goto (tgt := 95) hx hb dM_comes_175 (by decide) ?_
                        have hl := lv_sub hl [0, 1, 2, 3] rfl
                        have hl : lv_has ls 7 [(4, .int (nI (j + 1))), (2, .int (nI ps)), (0, .ref (b 0)), (1, .int nn)] := hl
                        exact ih2 (j + 1) (by omega) H locs hP hD hS ls hl
                  have hl := lv_sub hl [0, 1, 2, 3] rfl
                  have hl : lv_has ls 7 [(4, .int (nI 0)), (2, .int (nI ps)), (0, .ref (b 0)), (1, .int nn)] := hl
                  exact ini 8 0 (by omega) H locs hP hD hS ls hl
                · skip
                  exact absurd (nI_le (by omega) (by omega)) h8
              | succ kk ih =>
                intro kv ks1 ct1 sm1 le1 gr1 hkv hkn s1 s2 s3 s4 s5 H locs hP hD hS ls hl
                refine lv_iload hx hb dM_comes_53 (lv_at hl 0 rfl) ?_
                refine lv_iload_n hx hb dM_comes_55 rfl (lv_at hl 1 rfl) ?_
                refine lv_icmp_le (tgt := 75) hx hb dM_comes_56 (by decide) (fun h8 => ?_) (fun h8 => ?_)
                · skip
                  exact absurd h8 (nI_ge (a := ps) (b := kv) (by omega) (by omega))
                · skip
                  obtain ⟨k0, ek0⟩ : ∃ k0, kv = k0 + 1 := ⟨kv - 1, by omega⟩
                  subst ek0
                  refine lv_aload_n hx hb dM_comes_59 rfl (lv_at hl 2 rfl) ?_
                  refine lv_iload hx hb dM_comes_60 (lv_at hl 0 rfl) ?_
                  refine lv_iconst (v := 1) hx hb dM_comes_62 (by decide) ?_
                  refine lv_isub hx hb dM_comes_63 ?_
                  refine gi_as (y := nI k0) (nI_pred k0) ?_
                  refine lv_iload hx hb dM_comes_64 (lv_at hl 0 rfl) ?_
                  have hPc := hP
                  have hDc := hD
                  have hKc := hK
                  have hFc := va_free (wc := (wM b d cd (nI wn) (nI mn) (nI T.1) ks1 ct1 sm1 le1 gr1 fk fa)) hD hS hA [0, 1, 2, 3, 4, 5, 6, 7] rfl
                  refine va_callv (va_runV (As := [.int (nI k0), .int (nI (k0 + 1))]) (rest := []) ⟨hx, hb, hml, hown, hta⟩ (c_copy l dC dI b d cd (nI wn) (nI mn) (nI T.1) ks1 ct1 sm1 le1 gr1 fk fa k0 (k0 + 1) (by omega) (by omega) H.size) (cwV 2 hta (gV w345 w347 sM_copy w2 w348) rfl rfl rfl (by decide +kernel) ⟨Nat.le_of_ble_eq_true rfl, Nat.le_of_ble_eq_true rfl⟩) ⟨gb_W, va_recv hKc hPc (ci := 1) (q0 := 0) rfl rfl, fun U hU hW => ⟨rfl, by rw [hU], by rw [hU]; exact hPc, va_K.moved hW.alike hKc, hDc.weaken (fun _ _ _ _ => trivial)⟩⟩ rfl rfl hl.1 rfl (lv_room (Nat.le_of_ble_eq_true rfl)) dM_comes_66 ⟨Nat.le_of_ble_eq_true rfl, Nat.le_of_ble_eq_true rfl⟩) hS (fun q _ h => hFc q h) hFc (fun u t H1 locs ht hvm hw hB hz1 hk1 hS => ?_)
                  obtain ⟨hP1, hK1, hD1⟩ := hB
                  rw [ht] at hP1
                  obtain ⟨hP, hD⟩ := va_join (wr := []) (w1 := (wM b d cd (nI wn) (nI mn) (nI T.1) (upToI (fun m _ => ks1 (8 * k0 + m)) (8 * (k0 + 1)) ks1 8) (vp_updL ct1 (k0 + 1) (ct1 k0)) (upTo (fun m _ => sm1 (8 * k0 + m)) (8 * (k0 + 1)) sm1 8) (upTo (fun m _ => le1 (8 * k0 + m)) (8 * (k0 + 1)) le1 8) (upTo (fun m _ => gr1 (8 * k0 + m)) (8 * (k0 + 1)) gr1 8) fk fa)) hP hD [0, 1, 2, 3, 4, 5, 6, 7] [] rfl rfl (by decide) (by decide) hk1 hFc hP1 hD1
                  generalize H1 = H at hP hS ⊢
                  have hP : va_P (dC, dI) classes (wM b d cd (nI wn) (nI mn) (nI T.1) (upToI (fun m _ => ks1 (8 * k0 + m)) (8 * (k0 + 1)) ks1 8) (vp_updL ct1 (k0 + 1) (ct1 k0)) (upTo (fun m _ => sm1 (8 * k0 + m)) (8 * (k0 + 1)) sm1 8) (upTo (fun m _ => le1 (8 * k0 + m)) (8 * (k0 + 1)) le1 8) (upTo (fun m _ => gr1 (8 * k0 + m)) (8 * (k0 + 1)) gr1 8) fk fa) H := hP
                  have hD : va_D A (wM b d cd (nI wn) (nI mn) (nI T.1) (upToI (fun m _ => ks1 (8 * k0 + m)) (8 * (k0 + 1)) ks1 8) (vp_updL ct1 (k0 + 1) (ct1 k0)) (upTo (fun m _ => sm1 (8 * k0 + m)) (8 * (k0 + 1)) sm1 8) (upTo (fun m _ => le1 (8 * k0 + m)) (8 * (k0 + 1)) le1 8) (upTo (fun m _ => gr1 (8 * k0 + m)) (8 * (k0 + 1)) gr1 8) fk fa) := hD
                  refine lv_iinc (v := (nI k0)) (lv' := [(4, .int (nI k0)), (2, .int (nI ps)), (0, .ref (b 0)), (1, .int nn)]) hx hb dM_comes_69 hl (k := 0) rfl (pk_m1 k0) (by decide) rfl (fun ls hl => ?_)
                  refine lv_goto (tgt := 53) hx hb dM_comes_72 (by decide) ?_
                  have hl := lv_sub hl [0, 1, 2, 3] rfl
                  have hl : lv_has ls 7 [(4, .int (nI k0)), (2, .int (nI ps)), (0, .ref (b 0)), (1, .int nn)] := hl
                  exact ih k0 _ _ _ _ _ (by omega) (by omega) (shf_I s1 hkn h6) (shc_L s2 hkn h6) (shf_L s3 hkn h6) (shf_L s4 hkn h6) (shf_L s5 hkn h6) H locs hP hD hS ls hl
            have hl := lv_sub hl [0, 2, 3, 4] rfl
            have hl : lv_has ls 7 [(4, .int (nI T.1)), (2, .int (nI ps)), (0, .ref (b 0)), (1, .int nn)] := hl
            exact shl (T.1 - ps) T.1 ks2 ct2 sm2 le2 gr2 (by omega) (Nat.le_refl _) (shf_0 _ _) (shc_0 _ _) (shf_0 _ _) (shf_0 _ _) (shf_0 _ _) s.heap [] hP hD hS ls hl
        · skip
          have h6 : ¬ T.1 < 1000 := fun q => by have := (nI_eq (a := T.1) (b := 1000) (by omega) (by decide)).mp h6; omega
          refine lv_iconst (v := 0) hx hb dM_comes_41 (by decide) ?_
          have e9 := takeT_full (fa := fa) (nn := nn.toInt64) hc2 h6
          exact W.zret (v := 0) hx hb hr rfl (fun t9 ht9 hW9 => ⟨⟨0, (), rfl, by rw [e9]; rfl, by rw [e9]; exact ⟨_, _, _, _, _, hrep, by rw [ht9]; exact hP, va_K.moved hW9.alike hK, hD⟩⟩, hS.F ht9⟩) hS.2.2 dM_comes_42
    · skip
      have hc2 : lowP wn T.1 T.2.1 fk < T.1 ∧ lx (T.2.1 (lowP wn T.1 T.2.1 fk)) fk wn 0 = 0 := by rw [← eps]; exact ⟨h1, (repM_has hrep h1).mp h2⟩
      have e9 := takeT_hit (fa := fa) (nn := nn.toInt64) hc2
      rw [← eps] at e9
      refine lv_iconst (v := 1) hx hb dM_comes_21 (by decide) ?_
      refine lv_goto (tgt := 26) hx hb dM_comes_22 (by decide) ?_
      refine lv_istore_n (lv' := [(3, .int 1), (2, .int (nI ps)), (0, .ref (b 0)), (1, .int nn)]) hx hb dM_comes_26 rfl hl (by decide) rfl (fun ls hl => ?_)
      refine lv_iload_n hx hb dM_comes_27 rfl (lv_at hl 0 rfl) ?_
      refine lv_if_ne (tgt := 43) hx hb dM_comes_28 (by decide) (fun h5 => ?_) (fun h5 => ?_)
      · skip
        refine lv_iload_n hx hb dM_comes_43 rfl (lv_at hl 0 rfl) ?_
        refine lv_if_ne (tgt := 178) hx hb dM_comes_44 (by decide) (fun h7 => ?_) (fun h7 => ?_)
        · skip
          have hl := lv_sub hl [1, 2, 3] rfl
          have hl : lv_has ls 7 [(2, .int (nI ps)), (0, .ref (b 0)), (1, .int nn)] := hl
          exact tail T.1 ks2 ct2 sm2 le2 gr2 (by omega) (by rw [e9]; rfl) (by rw [e9]) (by rw [e9]; exact repM_hit hrep h1) s.heap [] hP hD hS ls hl
        · skip
          exact absurd h7 (by decide)
      · skip
        exact absurd h5 (by decide)
