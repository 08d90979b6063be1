/-! THROWN: what a throw of the class needs beside the tables' good words -/
def thrN : List String := ["java/lang/RuntimeException", "java/lang/Exception"]
def thrS : List (Nat × String) := [(47, "width is not 0 .. 8"), (52, "measures is not 1 .. 8"), (67, "there is no such part"), (72, "there is no such measure"), (75, "n is not 1 .. 100000"), (80, "n is not 1 .. 5000"), (102, "there is no such row"), (104, "what is not 0 .. 2")]
def thrB : List Cond := [.declares ⟨"java/lang/RuntimeException", "<init>", "(Ljava/lang/String;)V"⟩, .declares ⟨"java/lang/Exception", "<init>", "(Ljava/lang/String;)V"⟩, .declares ⟨"java/lang/Throwable", "<init>", "(Ljava/lang/String;)V"⟩, .castable "java/lang/IllegalArgumentException" "java/lang/IllegalArgumentException"]
def thrE (A : Nat → Prop) (U : State) (H : Heap) : Prop :=
  (va_Nw (.declares ⟨"java/lang/RuntimeException", "<init>", "(Ljava/lang/String;)V"⟩) U ∧ va_Nw (.declares ⟨"java/lang/Exception", "<init>", "(Ljava/lang/String;)V"⟩) U ∧ va_Nw (.declares ⟨"java/lang/Throwable", "<init>", "(Ljava/lang/String;)V"⟩) U ∧ va_Nw (.castable "java/lang/IllegalArgumentException" "java/lang/IllegalArgumentException") U) ∧ (∀ q ∈ thrS, ∃ sa, vk_R "GroupRows" q.1 q.2 sa U) ∧ vx_Zq Bundle.tN "UNASSIGNED_STACK" Bundle.steD A U H ∧ vx_Zq Bundle.tN "SUPPRESSED_SENTINEL" Bundle.listD A U H
theorem thrE.warm {A : Nat → Prop} {s U : State} {H : Heap} (hW : s.WarmedH U.vm) (h : thrE A s H) : thrE A U H := by
  obtain ⟨⟨h1, h2, h3, h4⟩, h5, h6, h7⟩ := h
  exact ⟨⟨va_Nw.warmD hW h1, va_Nw.warmD hW h2, va_Nw.warmD hW h3, va_Nw.warmC hW h4⟩, fun q hq => (h5 q hq).elim fun sa hs => ⟨sa, vk_R.warm hW hs⟩, vx_Zq.moved hW.alike h6, vx_Zq.moved hW.alike h7⟩
theorem thrE.kept {A : Nat → Prop} {U : State} {H H1 : Heap} (h : thrE A U H) (hq : ∀ a : Nat, a < H.size → ¬ A a → H1[a]? = H[a]?) : thrE A U H1 := ⟨h.1, h.2.1, vx_Zq.kept h.2.2.1 hq, vx_Zq.kept h.2.2.2 hq⟩
theorem thrE.narrow {A B : Nat → Prop} {U : State} {H : Heap} (h : thrE A U H) (hAB : ∀ q, B q → A q) : thrE B U H := ⟨h.1, h.2.1, vx_Zq.narrow h.2.2.1 hAB, vx_Zq.narrow h.2.2.2 hAB⟩
theorem thrE.same {A : Nat → Prop} {u U : State} {H : Heap} (hv : U.vm = u.vm) (h : thrE A u H) : thrE A U H := by
  obtain ⟨⟨h1, h2, h3, h4⟩, h5, h6, h7⟩ := h
  have ha : u.vm.Alike U.vm := by rw [hv]; exact Vm.Alike.refl _
  exact ⟨⟨va_Nw.same rfl hv.symm h1, va_Nw.same rfl hv.symm h2, va_Nw.same rfl hv.symm h3, va_Nw.same rfl hv.symm h4⟩, fun q hq => (h5 q hq).elim fun sa hs => ⟨sa, vk_R.same hv hs⟩, vx_Zq.moved ha h6, vx_Zq.moved ha h7⟩
theorem thrG : ∀ w ∈ (vx_atS "GroupRows" 49 "java/lang/IllegalArgumentException" thrN).filter goodWord, w ∈ wAll := by decide +kernel
theorem thrNG : ∀ w ∈ (vx_atS "GroupRows" 49 "java/lang/IllegalArgumentException" thrN).filter (fun w => !goodWord w), w ∈ thrB := by decide +kernel
theorem thrOT : ∀ w ∈ Cond.classLink "GroupRows" 45 "java/lang/IllegalArgumentException" :: Cond.initialized "java/lang/IllegalArgumentException" :: vx_atS "GroupRows" 49 "java/lang/IllegalArgumentException" thrN, vx_ot w = true := by decide +kernel
theorem thrE.hat {A : Nat → Prop} {args : Array Value} {s : State} {H : Heap} (hta : ∀ w ∈ wAll, w.before args s = true) (h : thrE A s H) : ∀ w ∈ vx_atS "GroupRows" 49 "java/lang/IllegalArgumentException" thrN, w.before args s = true :=
  vx_hat (B := thrB) (fun w hw => hta w (thrG w hw)) thrNG (vx_c (va_Nw.use rfl h.1.1) (vx_c (va_Nw.use rfl h.1.2.1) (vx_c (va_Nw.use rfl h.1.2.2.1) (vx_c (va_Nw.use rfl h.1.2.2.2) vx_n))))
section GX
variable {p : Program} {l : Launch} {e : Env} {R : Room} {s : State} {m : MethodId} {args : Array Value} {below : List Frame} {meth : Method} {c : Code} {H : Heap} {locs : List Loc} {cells slots : Nat} {Q : State → Prop}
variable {mc ms : Nat} {free : Addr → Prop} {ls : Array Slot} {rest : List Value} {Qc : Array Value → State → Outcome → State → Prop} {XC : String → State → State → Prop}
/-- 'throw new IllegalArgumentException("..")' in the class -/
theorem gx_throw {cc : ByteArray} {pc : Nat} {A : Nat → Prop} (hexec : p.tables.exec = Jvm.exec) (hb : c.code = cc) (hl : l.stackTraces = false) (hown : s.vm.findClass "GroupRows" = some m.cls) (hta : ∀ w ∈ wAll, w.before args s = true) (hT : thrE A s s.heap) (hS : va_S A s.heap H locs) (hsize : ls.size = c.maxLocals) {is : Nat} {text : String} (hq : (is, text) ∈ thrS)
    (d0 : decode cc pc = .ok (.new 45, 3)) (d3 : decode cc (pc + 3) = .ok (.dup, 1)) (d4 : decode cc (pc + 4) = .ok (.ldc is, 2)) (d6 : decode cc (pc + 6) = .ok (.invokespecial 49, 3)) (d9 : decode cc (pc + 9) = .ok (.athrow, 1))
    (hno : ∀ x ∈ c.exceptionTable.toList, False) (hRf : 5 < R.frames) (hRl : (rest.map fun v => v.category).sum + 82 ≤ R.locals) (hRc : cells + 1 ≤ R.cells) (hRs : slots + 6 ≤ R.slots) (hlocks : meth.locks = false)
    (hx : ∀ t : State, s.vm.Alike t.vm → H.size ≤ t.heap.size → (∀ q : Nat, q < H.size → t.heap[q]? = H[q]?) → XC "java/lang/IllegalArgumentException" s t)
    (hf : ∀ z ∈ locs, free z.base) (hc : cells + 1 ≤ mc) (hs : slots + 6 ≤ ms) :
    W p l e R s m args below meth c H locs cells slots (vx_MQ below Qc XC args s mc ms free) (F0 m pc ls rest) := by
  obtain ⟨sa, hstr⟩ := hT.2.1 _ hq
  exact vx_throwS hexec hb hl (names := thrN) hown (by decide +kernel) (by decide +kernel) (hta _ w86) (hta _ w6) hstr (thrE.hat hta hT) thrOT hT.2.2.1 hT.2.2.2 hS hsize d0 d3 d4 d6 d9 (fun x h => (hno x h).elim) hRf hRl hRc hRs hlocks hx hf hc hs
end GX
theorem gb_X {av : List Value} {sz : Nat} {D : va_G} {cl : List vw_C} {ws : va_W} {tys : List (ClassId × FieldType)} {A B : Nat → Prop} : FrameBlind (va_Pc av (fun U => U.heap.size = sz ∧ va_P D cl ws U.heap ∧ va_K D cl tys U ∧ va_D A ws ∧ thrE B U U.heap)) := fun a U g mk q => ⟨q.1, q.2.1, q.2.2.1, va_K.moved (u := U) (U := U.calling g mk a) (Vm.Alike.refl U.vm) q.2.2.2.1, q.2.2.2.2.1, thrE.same (u := U) rfl q.2.2.2.2.2⟩
