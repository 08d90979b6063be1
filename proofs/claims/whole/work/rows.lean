section
-- ===== PART A: goes FIRST, ahead of the names: the tables' words, and 'selects' of the private methods out of them =====
/-- a private method of a class that the tables say can be made, by its rows of tables_1 -/
def lw_okq (q : MethodName × Nat) : Prop := (q.1.cls ≠ "java/lang/invoke/MethodHandle" ∧ q.1.cls ≠ "java/lang/invoke/VarHandle") ∧ Cond.instantiable q.1.cls q.2 ∈ tables_1 ∧ Cond.privateMethod q.1 ∈ tables_1 ∧ Cond.instanceMethod q.1 ∈ tables_1
theorem lw_p0 : lw_okq (⟨"GroupRows", "lowerPlace", "([III)I"⟩, 11) := ⟨⟨by decide +kernel, by decide +kernel⟩, List.mem_of_getElem? (i := 12) (by decide +kernel), List.mem_of_getElem? (i := 64) (by decide +kernel), List.mem_of_getElem? (i := 65) (by decide +kernel)⟩
theorem lw_p1 : lw_okq (⟨"GroupRows", "compareKey", "(I[II)I"⟩, 11) := ⟨⟨by decide +kernel, by decide +kernel⟩, List.mem_of_getElem? (i := 12) (by decide +kernel), List.mem_of_getElem? (i := 68) (by decide +kernel), List.mem_of_getElem? (i := 69) (by decide +kernel)⟩
theorem lw_p2 : lw_okq (⟨"GroupRows", "isKeyAt", "(I[III)Z"⟩, 11) := ⟨⟨by decide +kernel, by decide +kernel⟩, List.mem_of_getElem? (i := 12) (by decide +kernel), List.mem_of_getElem? (i := 75) (by decide +kernel), List.mem_of_getElem? (i := 76) (by decide +kernel)⟩
theorem lw_p3 : lw_okq (⟨"java/lang/Throwable", "fillInStackTrace", "(I)Ljava/lang/Throwable;"⟩, 6) := ⟨⟨by decide +kernel, by decide +kernel⟩, List.mem_of_getElem? (i := 123) (by decide +kernel), List.mem_of_getElem? (i := 121) (by decide +kernel), List.mem_of_getElem? (i := 122) (by decide +kernel)⟩
theorem lw_p4 : lw_okq (⟨"GroupRows", "isPart", "(I)Z"⟩, 11) := ⟨⟨by decide +kernel, by decide +kernel⟩, List.mem_of_getElem? (i := 12) (by decide +kernel), List.mem_of_getElem? (i := 167) (by decide +kernel), List.mem_of_getElem? (i := 168) (by decide +kernel)⟩
theorem lw_p5 : lw_okq (⟨"GroupRows", "isMeasure", "(I)Z"⟩, 11) := ⟨⟨by decide +kernel, by decide +kernel⟩, List.mem_of_getElem? (i := 12) (by decide +kernel), List.mem_of_getElem? (i := 179) (by decide +kernel), List.mem_of_getElem? (i := 180) (by decide +kernel)⟩
theorem lw_p6 : lw_okq (⟨"GroupRows", "takeFact", "(I)Z"⟩, 11) := ⟨⟨by decide +kernel, by decide +kernel⟩, List.mem_of_getElem? (i := 12) (by decide +kernel), List.mem_of_getElem? (i := 193) (by decide +kernel), List.mem_of_getElem? (i := 194) (by decide +kernel)⟩
theorem lw_p7 : lw_okq (⟨"GroupRows", "openRow", "(I)V"⟩, 11) := ⟨⟨by decide +kernel, by decide +kernel⟩, List.mem_of_getElem? (i := 12) (by decide +kernel), List.mem_of_getElem? (i := 197) (by decide +kernel), List.mem_of_getElem? (i := 198) (by decide +kernel)⟩
theorem lw_p8 : lw_okq (⟨"GroupRows", "insertSlot", "(III)V"⟩, 11) := ⟨⟨by decide +kernel, by decide +kernel⟩, List.mem_of_getElem? (i := 12) (by decide +kernel), List.mem_of_getElem? (i := 201) (by decide +kernel), List.mem_of_getElem? (i := 202) (by decide +kernel)⟩
theorem lw_p9 : lw_okq (⟨"GroupRows", "joinFact", "(II)V"⟩, 11) := ⟨⟨by decide +kernel, by decide +kernel⟩, List.mem_of_getElem? (i := 12) (by decide +kernel), List.mem_of_getElem? (i := 210) (by decide +kernel), List.mem_of_getElem? (i := 211) (by decide +kernel)⟩
theorem lw_p10 : lw_okq (⟨"GroupRows", "stepFact", "(II)V"⟩, 11) := ⟨⟨by decide +kernel, by decide +kernel⟩, List.mem_of_getElem? (i := 12) (by decide +kernel), List.mem_of_getElem? (i := 228) (by decide +kernel), List.mem_of_getElem? (i := 229) (by decide +kernel)⟩
theorem lw_p11 : lw_okq (⟨"GroupRows", "regroup", "()I"⟩, 11) := ⟨⟨by decide +kernel, by decide +kernel⟩, List.mem_of_getElem? (i := 12) (by decide +kernel), List.mem_of_getElem? (i := 240) (by decide +kernel), List.mem_of_getElem? (i := 241) (by decide +kernel)⟩
theorem lw_p12 : lw_okq (⟨"GroupRows", "joinRow", "(II)V"⟩, 11) := ⟨⟨by decide +kernel, by decide +kernel⟩, List.mem_of_getElem? (i := 12) (by decide +kernel), List.mem_of_getElem? (i := 244) (by decide +kernel), List.mem_of_getElem? (i := 245) (by decide +kernel)⟩
theorem lw_p13 : lw_okq (⟨"GroupRows", "isPlace", "(I)Z"⟩, 11) := ⟨⟨by decide +kernel, by decide +kernel⟩, List.mem_of_getElem? (i := 12) (by decide +kernel), List.mem_of_getElem? (i := 255) (by decide +kernel), List.mem_of_getElem? (i := 256) (by decide +kernel)⟩
theorem lw_p14 : lw_okq (⟨"GroupRowsModel", "comes", "(I)Z"⟩, 11) := ⟨⟨by decide +kernel, by decide +kernel⟩, List.mem_of_getElem? (i := 275) (by decide +kernel), List.mem_of_getElem? (i := 336) (by decide +kernel), List.mem_of_getElem? (i := 337) (by decide +kernel)⟩
theorem lw_p15 : lw_okq (⟨"GroupRowsModel", "before", "()I"⟩, 11) := ⟨⟨by decide +kernel, by decide +kernel⟩, List.mem_of_getElem? (i := 275) (by decide +kernel), List.mem_of_getElem? (i := 340) (by decide +kernel), List.mem_of_getElem? (i := 341) (by decide +kernel)⟩
def lw_privs_1 : List (MethodName × Nat) := [(⟨"GroupRows", "lowerPlace", "([III)I"⟩, 11), (⟨"GroupRows", "compareKey", "(I[II)I"⟩, 11), (⟨"GroupRows", "isKeyAt", "(I[III)Z"⟩, 11), (⟨"java/lang/Throwable", "fillInStackTrace", "(I)Ljava/lang/Throwable;"⟩, 6), (⟨"GroupRows", "isPart", "(I)Z"⟩, 11), (⟨"GroupRows", "isMeasure", "(I)Z"⟩, 11), (⟨"GroupRows", "takeFact", "(I)Z"⟩, 11), (⟨"GroupRows", "openRow", "(I)V"⟩, 11), (⟨"GroupRows", "insertSlot", "(III)V"⟩, 11), (⟨"GroupRows", "joinFact", "(II)V"⟩, 11), (⟨"GroupRows", "stepFact", "(II)V"⟩, 11), (⟨"GroupRows", "regroup", "()I"⟩, 11), (⟨"GroupRows", "joinRow", "(II)V"⟩, 11), (⟨"GroupRows", "isPlace", "(I)Z"⟩, 11), (⟨"GroupRowsModel", "comes", "(I)Z"⟩, 11), (⟨"GroupRowsModel", "before", "()I"⟩, 11)]
theorem lw_r1 : ∀ q ∈ lw_privs_1, lw_okq q := List.forall_mem_cons.mpr ⟨lw_p0, List.forall_mem_cons.mpr ⟨lw_p1, List.forall_mem_cons.mpr ⟨lw_p2, List.forall_mem_cons.mpr ⟨lw_p3, List.forall_mem_cons.mpr ⟨lw_p4, List.forall_mem_cons.mpr ⟨lw_p5, List.forall_mem_cons.mpr ⟨lw_p6, List.forall_mem_cons.mpr ⟨lw_p7, List.forall_mem_cons.mpr ⟨lw_p8, List.forall_mem_cons.mpr ⟨lw_p9, List.forall_mem_cons.mpr ⟨lw_p10, List.forall_mem_cons.mpr ⟨lw_p11, List.forall_mem_cons.mpr ⟨lw_p12, List.forall_mem_cons.mpr ⟨lw_p13, List.forall_mem_cons.mpr ⟨lw_p14, List.forall_mem_cons.mpr ⟨lw_p15, fun _ h => absurd h List.not_mem_nil⟩⟩⟩⟩⟩⟩⟩⟩⟩⟩⟩⟩⟩⟩⟩⟩
theorem lw_p16 : lw_okq (⟨"GroupRowsModel", "against", "(I)I"⟩, 11) := ⟨⟨by decide +kernel, by decide +kernel⟩, List.mem_of_getElem? (i := 275) (by decide +kernel), List.mem_of_getElem? (i := 344) (by decide +kernel), List.mem_of_getElem? (i := 345) (by decide +kernel)⟩
theorem lw_p17 : lw_okq (⟨"GroupRowsModel", "copy", "(II)V"⟩, 11) := ⟨⟨by decide +kernel, by decide +kernel⟩, List.mem_of_getElem? (i := 275) (by decide +kernel), List.mem_of_getElem? (i := 348) (by decide +kernel), List.mem_of_getElem? (i := 349) (by decide +kernel)⟩
theorem lw_p18 : lw_okq (⟨"GroupRowsModel", "compared", "(II)I"⟩, 11) := ⟨⟨by decide +kernel, by decide +kernel⟩, List.mem_of_getElem? (i := 275) (by decide +kernel), List.mem_of_getElem? (i := 361) (by decide +kernel), List.mem_of_getElem? (i := 362) (by decide +kernel)⟩
theorem lw_p19 : lw_okq (⟨"GroupRowsModel", "join", "(II)V"⟩, 11) := ⟨⟨by decide +kernel, by decide +kernel⟩, List.mem_of_getElem? (i := 275) (by decide +kernel), List.mem_of_getElem? (i := 365) (by decide +kernel), List.mem_of_getElem? (i := 366) (by decide +kernel)⟩
theorem lw_p20 : lw_okq (⟨"GroupRowsModel", "sort", "()V"⟩, 11) := ⟨⟨by decide +kernel, by decide +kernel⟩, List.mem_of_getElem? (i := 275) (by decide +kernel), List.mem_of_getElem? (i := 369) (by decide +kernel), List.mem_of_getElem? (i := 370) (by decide +kernel)⟩
theorem lw_p21 : lw_okq (⟨"GroupRowsModel", "swap", "(II)V"⟩, 11) := ⟨⟨by decide +kernel, by decide +kernel⟩, List.mem_of_getElem? (i := 275) (by decide +kernel), List.mem_of_getElem? (i := 373) (by decide +kernel), List.mem_of_getElem? (i := 374) (by decide +kernel)⟩
theorem lw_p22 : lw_okq (⟨"GroupRowsModel", "isRow", "(I)Z"⟩, 11) := ⟨⟨by decide +kernel, by decide +kernel⟩, List.mem_of_getElem? (i := 275) (by decide +kernel), List.mem_of_getElem? (i := 389) (by decide +kernel), List.mem_of_getElem? (i := 390) (by decide +kernel)⟩
def lw_privs_2 : List (MethodName × Nat) := [(⟨"GroupRowsModel", "against", "(I)I"⟩, 11), (⟨"GroupRowsModel", "copy", "(II)V"⟩, 11), (⟨"GroupRowsModel", "compared", "(II)I"⟩, 11), (⟨"GroupRowsModel", "join", "(II)V"⟩, 11), (⟨"GroupRowsModel", "sort", "()V"⟩, 11), (⟨"GroupRowsModel", "swap", "(II)V"⟩, 11), (⟨"GroupRowsModel", "isRow", "(I)Z"⟩, 11)]
theorem lw_r2 : ∀ q ∈ lw_privs_2, lw_okq q := List.forall_mem_cons.mpr ⟨lw_p16, List.forall_mem_cons.mpr ⟨lw_p17, List.forall_mem_cons.mpr ⟨lw_p18, List.forall_mem_cons.mpr ⟨lw_p19, List.forall_mem_cons.mpr ⟨lw_p20, List.forall_mem_cons.mpr ⟨lw_p21, List.forall_mem_cons.mpr ⟨lw_p22, fun _ h => absurd h List.not_mem_nil⟩⟩⟩⟩⟩⟩⟩
def lw_privs : List (MethodName × Nat) := lw_privs_1 ++ (lw_privs_2)
def lw_tbl : List Cond := k2_sels lw_privs ++ tables_1
theorem lw_privs_ok : ∀ q ∈ lw_privs, lw_okq q := by
  show ∀ q ∈ lw_privs_1 ++ (lw_privs_2), lw_okq q
  exact List.forall_mem_append.mpr ⟨lw_r1, lw_r2⟩
end
section
/-! ===== BEGIN words of one list among another's, by their places ===== -/
theorem goodIn_r {big : List Cond} (ws : List Cond) (ps : List Nat) (hp : ws = ps.filterMap (fun i => big[i]?)) (h : ws.all goodWord = true) : GoodIn big ws := by
  intro w hw
  have h1 := List.all_eq_true.mp h w hw
  rw [hp] at hw
  obtain ⟨i, -, hi⟩ := List.mem_filterMap.mp hw
  have hm : w ∈ big := by first | exact List.mem_of_getElem? hi | exact List.getElem?_mem hi
  exact ⟨hm, good_of_word h1⟩
theorem goodIn_app {big a b : List Cond} (ha : GoodIn big a) (hb : GoodIn big b) : GoodIn big (a ++ b) := fun w h => (List.mem_append.mp h).elim (ha w) (hb w)
theorem goodIn_ca {big a b : List Cond} {c : Cond} (ha : GoodIn big (c :: a)) (hb : GoodIn big b) : GoodIn big (c :: (a ++ b)) := fun w h => (List.mem_cons.mp h).elim (fun e => ha w (List.mem_cons.mpr (Or.inl e))) (fun h => (List.mem_append.mp h).elim (fun h => ha w (List.mem_cons.mpr (Or.inr h))) (hb w))
theorem goodIn_sub {big ws : List Cond} (hm : ∀ w ∈ ws, w ∈ big) (h : ws.all goodWord = true) : GoodIn big ws := fun w hw => ⟨hm w hw, good_of_word (List.all_eq_true.mp h w hw)⟩
/-! ===== END ===== -/

/-! ===== BEGIN exceptions that leave a method, and their catching by the caller (launches without stack traces) ===== -/
section VXA
/-! The laws vx_back, vx_callV, vx_callS, vx_callSW, vx_throw0, vx_throwS follow proofs of the library, with one case more: JvmDerived/Free/Laws.lean (Back.of_free), Shelf42/LK1.lean (callV, callS), Shelf/KitTraced.lean (throwNew0V, throwNewS). -/
/-- where a method has thrown q: the class by its name, the cell, what was written, the world -/
def vx_T (XC : String → State → State → Prop) (st : State) (q : Addr) (t : State) (mc ms : Nat) (free : Addr → Prop) : Prop :=
  ∃ (E : String) (ce : Cell) (L : List Loc), XC E st t ∧ t.heap[q]? = some ce ∧ ce.vm = .none ∧ st.vm.findClass E = some ce.cls ∧ st.WarmedH t.vm ∧ st.sameButNew ({ t with vm := st.vm } : State) L mc ms ∧ ∀ z ∈ L, free z.base
def vx_Q (Qc : Array Value → State → Outcome → State → Prop) (XC : String → State → State → Prop) (mc ms : Nat) (free : Addr → Prop) : Array Value → State → Outcome → State → Prop := fun a st o t =>
  (Qc a st o t ∧ ∃ L, FrameEnd st o t L mc ms ∧ ∀ q ∈ L, free q.base) ∨ ∃ q, o = .threw q ∧ vx_T XC st q t mc ms free
/-- a callee that returns or throws -/
def vx_Met (l : Launch) (y : MethodName) (ws : List Cond) (rm : Room) (Pc : Array Value → State → Prop) (Qc : Array Value → State → Outcome → State → Prop) (XC : String → State → State → Prop) (mc ms : Nat) (free : Addr → Prop) : Prop :=
  MetFree l y (headSpec ws rm) Pc (fun _ _ _ _ _ => True) (vx_Q Qc XC mc ms free)
def vx_Post (XC : String → State → State → Prop) (mc ms : Nat) (free : Addr → Prop) : Pt → Array Value → Addr → Pt → Prop := fun A a q B =>
  ∃ (g : JFrame) (mk : MethodId) (t : State) (L : List Loc) (E : String) (ce : Cell), B.U.heap = t.heap ∧ B.U.vm = t.vm ∧ XC E (A.U.calling g mk a) t ∧ t.heap[q]? = some ce ∧ ce.vm = .none ∧ A.U.vm.findClass E = some ce.cls ∧ B.locs = A.locs ++ L ∧ (∀ z ∈ L, free z.base) ∧ B.cells = A.cells + mc ∧ B.slots = A.slots + ms
def vx_Back (l : Launch) (R : Room) (p : Program) (e : Env) (below : List Frame) (s : State) (sargs : Array Value) (y : MethodName) (len W9 : Nat)
    (Pre : Pt → Array Value → Prop) (Post : Pt → Array Value → Option Value → Pt → Prop) (PostX : Pt → Array Value → Addr → Pt → Prop) : Prop :=
  ∀ (m : MethodId) (meth : Method) (c : Code) (A : Pt) (g : JFrame) (ig : Instr) (mk : MethodId) (a : Array Value),
    Stand p l e R s m sargs below meth c A.U A.locs A.cells A.slots → g.method = m → g.locals.size = c.maxLocals → decode c.code g.pc = .ok (ig, len) →
    2 * g.monitorRoom + (g.stack.map fun v => v.category).sum ≤ W9 → A.U.methodNamed? y = some mk → Pre A a →
    (∃ (v : Option Value) (B : Pt), Stand p l e R s m sargs below meth c B.U B.locs B.cells B.slots ∧ Post A a v B ∧
      Steps p.tables e below (doInvoke e (A.U.setTop g) [] mk a).1 (B.U.setTop { g with pc := g.pc + len, stack := v.toList ++ g.stack })) ∨
    (∃ (q : Addr) (B : Pt), Stand p l e R s m sargs below meth c B.U B.locs B.cells B.slots ∧ PostX A a q B ∧
      Steps p.tables e below (doInvoke e (A.U.setTop g) [] mk a).1 ((B.U.setTop g).pushFrame (.throwing q)))
section Payer
variable {l : Launch} {R : Room} {p : Program} {e : Env} {below : List Frame} {s : State} {sargs : Array Value} {y : MethodName} {len W9 : Nat}
theorem vx_back {ws : List Cond} {rm : Room} {Pc : Array Value → State → Prop} {Qc : Array Value → State → Outcome → State → Prop} {XC : String → State → State → Prop} {mc ms : Nat} {free : Addr → Prop} {bytes : ByteArray} {maxL : Nat} {ret : Option FieldType}
    (hM : vx_Met l y ws rm Pc Qc XC mc ms free) (hblind : FrameBlind Pc) (hrc : rm.cells = mc) (hrs : rm.slots = ms)
    (hframes : rm.frames + 1 ≤ R.frames) (hlocals : W9 + (maxL + 11) + rm.locals ≤ R.locals)
    (hws : ∀ w ∈ ws, ∀ a' U, s.WarmedH U.vm → w.before a' U = true) (hcode : Cond.code y bytes maxL ret ∈ ws) (hinit : ∀ a' U, s.WarmedH U.vm → (Cond.initialized y.cls).before a' U = true) :
    vx_Back l R p e below s sargs y len W9 (PreOf R mc ms Pc) (PostOf Qc mc ms free) (vx_Post XC mc ms free) := by
  intro m meth c A g ig mk a X hg hsize hdg hW hn hp
  have h1 : (headSpec ws rm).pre.before a A.U = true := atoms_intro fun w hw => hws w hw _ _ X.warmed
  have h2 : (Cond.code y bytes maxL ret).before a A.U = true := hws _ hcode _ _ X.warmed
  have h3 : (Cond.initialized y.cls).before a A.U = true := hinit _ _ X.warmed
  have h4 : A.cells + (headSpec ws rm).room.cells ≤ R.cells := by rw [show (headSpec ws rm).room.cells = mc from hrc]; exact hp.1
  have h5 : A.slots + (headSpec ws rm).room.slots ≤ R.slots := by rw [show (headSpec ws rm).room.slots = ms from hrs]; exact hp.2.1
  have hPc : Pc a (A.U.calling g mk a) := hblind _ _ _ _ hp.2.2
  obtain ⟨U, Ls, c0, s0⟩ := A
  dsimp only [Pt.U, Pt.locs, Pt.cells, Pt.slots] at h1 h2 h3 h4 h5 X hn hPc ⊢
  obtain ⟨methY, cY, hmY, hcY, -, hlY, -, -, -, -⟩ := Cond.code_spec hn h2
  obtain ⟨kY, hkY, -⟩ := className_of_methodNamed hn
  have hinitY : kY.init = .initialized := Cond.initialized_spec (findClass_of_methodNamed hn) hkY h3
  have h : At U g.method c below := by rw [hg]; exact X.here
  have hlocals9 : W9 + (maxL + 11) + (headSpec ws rm).room.locals ≤ R.locals := hlocals
  have happ : (headSpec ws rm).appliesLoose y e.platform (U.calling g mk a) = true :=
    Spec.appliesLoose_calling (g := g) h hdg hn hkY hinitY
      (X.room_calling (g := g) (R' := (headSpec ws rm).room) hsize hmY hcY hframes (by rw [hlY]; omega) h4 h5) h1
  obtain ⟨mid, hmid⟩ := h.above
  have hfr : (U.setTop g).frames = (.java g :: mid) ++ below := by rw [State.frames_setTop' g h.top, hmid]; rfl
  obtain ⟨o, s₂, hsteps, -, hend, hq⟩ := Steps.callFree hM p X.admits X.cas X.clock (acts := []) hfr happ hPc trivial
  have hq' : vx_Q Qc XC mc ms free a (U.calling g mk a) o s₂ := hq
  rw [State.frames_setTop' g h.top] at hend
  obtain ⟨g₀, hg0⟩ := Option.isSome_iff_exists.mp h.top
  obtain ⟨r, hr⟩ := State.topJava?_eq_some.mp hg0
  have hr' : (({ U with heap := s₂.heap, slotsUsed := s₂.slotsUsed } : State).setVm s₂.vm).frames = .java g₀ :: r := hr
  rcases hq' with ⟨hqc, L, hfe, hL⟩ | ⟨q, rfl, E, ce, L, hx, hce, hcv, hcl, hW₂, hsm, hL⟩
  · obtain ⟨⟨v, rfl⟩, hW₂, e2, q2, q3, q4, q5, q6⟩ := id hfe
    have e3 : s₂ = ({ (U.calling g mk a).setFrames s₂.frames with heap := s₂.heap, slotsUsed := s₂.slotsUsed } : State).setVm s₂.vm := by
      have : s₂ = ({ s₂ with vm := (U.calling g mk a).vm } : State).setVm s₂.vm := rfl
      rw [e2] at this
      exact this
    obtain ⟨c₂, i₂, len₂, hc₂, hd₂, hf₂⟩ := hend
    have hW' : U.WarmedH s₂.vm := hW₂
    have hcc : c₂ = c := by
      have h1 : s₂.code? g.method = U.code? g.method := by
        rw [State.code?_eq, State.code?_eq, hW'.alike.method?]
      exact Option.some.inj (hc₂.symm.trans (h1.trans h.code))
    subst hcc
    have hlen : len₂ = len := by rw [hdg] at hd₂; cases hd₂; rfl
    subst hlen
    have hs₂ : s₂ = (({ U with heap := s₂.heap, slotsUsed := s₂.slotsUsed } : State).setVm s₂.vm).setTop { g with pc := g.pc + len₂, stack := v.toList ++ g.stack } := by
      refine e3.trans ?_
      rw [hf₂, State.calling_eq h.top, State.setFrames_setFrames, State.setTop_of_frames _ hr', hr]
      rfl
    have hsame : U.sameButNew ({ U with heap := s₂.heap, slotsUsed := s₂.slotsUsed } : State) L mc ms := by
      refine ⟨?_, q2, q3, q4, q5, q6⟩
      obtain ⟨t, ht, -⟩ := State.frames_cons hr
      show ({ U with heap := s₂.heap, slotsUsed := s₂.slotsUsed } : State) = { U.setFrames U.frames with heap := s₂.heap, slotsUsed := s₂.slotsUsed }
      rw [State.setFrames_self ht]
    subst hg
    refine Or.inl ⟨v, ⟨(({ U with heap := s₂.heap, slotsUsed := s₂.slotsUsed } : State).setVm s₂.vm), Ls ++ L, c0 + mc, s0 + ms⟩,
      ⟨X.admits, X.cas, X.clock, X.frames, X.room, X.hears, X.method, X.code, (X.here.setHeapUsed s₂.heap s₂.slotsUsed).setVm hW'.alike, X.tail, State.WarmedH.trans X.warmed hW', X.limits, X.bytes, X.same.trans (hsame.setVm s.vm)⟩,
      ⟨g, mk, s₂, L, rfl, rfl, hqc, rfl, hL, rfl, rfl⟩, ?_⟩
    show Steps p.tables e below _ ((({ U with heap := s₂.heap, slotsUsed := s₂.slotsUsed } : State).setVm s₂.vm).setTop { g with pc := g.pc + len₂, stack := v.toList ++ g.stack })
    rw [← hs₂]
    exact hsteps
  · obtain ⟨e2, q2, q3, q4, q5, q6⟩ := id hsm
    have e3 : s₂ = ({ (U.calling g mk a).setFrames s₂.frames with heap := s₂.heap, slotsUsed := s₂.slotsUsed } : State).setVm s₂.vm := by
      have : s₂ = ({ s₂ with vm := (U.calling g mk a).vm } : State).setVm s₂.vm := rfl
      rw [e2] at this
      exact this
    have hf₂ : s₂.frames = .throwing q :: .java g :: U.frames.tail := hend
    have hW' : U.WarmedH s₂.vm := hW₂
    have hs₂ : s₂ = ((({ U with heap := s₂.heap, slotsUsed := s₂.slotsUsed } : State).setVm s₂.vm).setTop g).pushFrame (.throwing q) := by
      refine e3.trans ?_
      rw [hf₂, State.calling_eq h.top, State.setFrames_setFrames, State.pushFrame, State.frames_setTop _ hr', State.setTop_of_frames _ hr', State.setFrames_setFrames, hr]
      rfl
    have hsame : U.sameButNew ({ U with heap := s₂.heap, slotsUsed := s₂.slotsUsed } : State) L mc ms := by
      refine ⟨?_, q2, q3, q4, q5, q6⟩
      obtain ⟨t, ht, -⟩ := State.frames_cons hr
      show ({ U with heap := s₂.heap, slotsUsed := s₂.slotsUsed } : State) = { U.setFrames U.frames with heap := s₂.heap, slotsUsed := s₂.slotsUsed }
      rw [State.setFrames_self ht]
    subst hg
    refine Or.inr ⟨q, ⟨(({ U with heap := s₂.heap, slotsUsed := s₂.slotsUsed } : State).setVm s₂.vm), Ls ++ L, c0 + mc, s0 + ms⟩,
      ⟨X.admits, X.cas, X.clock, X.frames, X.room, X.hears, X.method, X.code, (X.here.setHeapUsed s₂.heap s₂.slotsUsed).setVm hW'.alike, X.tail, State.WarmedH.trans X.warmed hW', X.limits, X.bytes, X.same.trans (hsame.setVm s.vm)⟩,
      ⟨g, mk, s₂, L, E, ce, rfl, rfl, hx, hce, hcv, hcl, rfl, hL, rfl, rfl⟩, ?_⟩
    show Steps p.tables e below _ (((({ U with heap := s₂.heap, slotsUsed := s₂.slotsUsed } : State).setVm s₂.vm).setTop g).pushFrame (.throwing q))
    rw [← hs₂]
    exact hsteps
end Payer
section Calls
variable {p : Program} {l : Launch} {e : Env} {R : Room} {s : State} {m : MethodId} {args : Array Value} {below : List Frame} {meth : Method} {c : Code} {T : State} {locs : List Loc} {cells slots : Nat}
theorem vx_callV (X : Stand p l e R s m args below meth c T locs cells slots) (hexec : p.tables.exec = Jvm.exec) {own C : String} {index : Nat} {y : MethodName} {bytes : ByteArray} {maxL : Nat} {ret : Option FieldType}
    (hown : s.vm.findClass own = some m.cls) (hlink : (Cond.methodLink own index y).before args s = true) (hinst : (Cond.instanceMethod y).before args s = true) (hsel : (Cond.selects C y y).before args s = true)
    (hcode : (Cond.code y bytes maxL ret).before args s = true) (hy : y.cls ≠ "java/lang/invoke/MethodHandle" ∧ y.cls ≠ "java/lang/invoke/VarHandle")
    {W9 : Nat} {Pre : Pt → Array Value → Prop} {Post : Pt → Array Value → Option Value → Pt → Prop} {PostX : Pt → Array Value → Addr → Pt → Prop} (hK : vx_Back l R p e below s args y 3 W9 Pre Post PostX)
    {b : Addr} {cellB : Cell} (hcell : T.heap[b]? = some cellB) (hobj : cellB.vm.isStatics = false) (hcls : s.vm.findClass C = some cellB.cls)
    {g : JFrame} (hg : g.method = m) (hsize : g.locals.size = c.maxLocals) {argsL rest : List Value} (hlen : ∀ sig, parseMethodDescriptor y.desc = some sig → argsL.length = sig.parameters.length)
    (hstack : g.stack = argsL.reverse ++ .ref b :: rest) (hW : 2 * g.monitorRoom + (rest.map fun v => v.category).sum ≤ W9) (hdg : decode c.code g.pc = .ok (.invokevirtual index, 3))
    (hpre : ∀ vm₁, s.WarmedH vm₁ → Pre ⟨T.setVm vm₁, locs, cells, slots⟩ (Value.ref b :: argsL).toArray) :
    (∃ (v : Option Value) (vm₁ : Vm) (B : Pt), s.WarmedH vm₁ ∧ Stand p l e R s m args below meth c B.U B.locs B.cells B.slots ∧ Post ⟨T.setVm vm₁, locs, cells, slots⟩ (Value.ref b :: argsL).toArray v B ∧
      ∀ target, Steps p.tables e below (B.U.setTop { g with pc := g.pc + 3, stack := v.toList ++ rest }) target → Steps p.tables e below (T.setTop g) target) ∨
    (∃ (q : Addr) (vm₁ : Vm) (B : Pt), s.WarmedH vm₁ ∧ Stand p l e R s m args below meth c B.U B.locs B.cells B.slots ∧ PostX ⟨T.setVm vm₁, locs, cells, slots⟩ (Value.ref b :: argsL).toArray q B ∧
      Steps p.tables e below (T.setTop g) ((B.U.setTop { g with stack := rest }).pushFrame (.throwing q))) := by
  obtain ⟨mk, methM, hnamed, hmethM, hstM, habM⟩ := Cond.instanceMethod_spec hinst
  obtain ⟨methM', cM, hmethM', -, -, -, -, -, -, hsigM⟩ := Cond.code_spec hnamed hcode
  cases hmethM.symm.trans hmethM'
  obtain ⟨c2, r2, m2, q1, q2, q3, q4, kP, hkP, hkPi⟩ := Cond.selects_spec hsel
  cases hcls.symm.trans q1
  cases (State.methodFound?_of_named hnamed hy).symm.trans q2
  cases hnamed.symm.trans q3
  have hselP : selectMethod e.platform s.vm cellB.cls mk = .method mk := by rw [Launch.admits_selectMethod X.admits]; exact q4
  obtain ⟨vm₁, X₁, hstep₁⟩ := X.invokevirtual hexec hown hlink hnamed hmethM hstM hkP hkPi hy (a := b) (cell := cellB) hcell
    (fun z h => by rw [h] at hobj; cases hobj) hselP hmethM habM hkP hkPi (g := g) hg (argsL := argsL) (rest := rest) (hlen _ hsigM) hstack hdg
  rcases hK m meth c ⟨T.setVm vm₁, locs, cells, slots⟩ { g with stack := rest } (.invokevirtual index) mk (Value.ref b :: argsL).toArray X₁ hg hsize hdg hW (X₁.named hnamed) (hpre vm₁ X₁.warmed) with ⟨v, B, X', hpost, hsteps⟩ | ⟨q, B, X', hpost, hsteps⟩
  · exact Or.inl ⟨v, vm₁, B, X₁.warmed, X', hpost, fun target h => hstep₁ _ fun acts => by rw [doInvoke_state]; exact hsteps.trans h⟩
  · exact Or.inr ⟨q, vm₁, B, X₁.warmed, X', hpost, hstep₁ _ fun acts => by rw [doInvoke_state]; exact hsteps⟩
theorem vx_callS (X : Stand p l e R s m args below meth c T locs cells slots) (hexec : p.tables.exec = Jvm.exec) {own : String} {index : Nat} {y : MethodName} {bytes : ByteArray} {maxL : Nat} {ret : Option FieldType}
    (hown : s.vm.findClass own = some m.cls) (hlink : (Cond.methodLink own index y).before args s = true) (hstat : (Cond.static y).before args s = true) (hinit : (Cond.initialized y.cls).before args s = true)
    (hcode : (Cond.code y bytes maxL ret).before args s = true) (hy : y.cls ≠ "java/lang/invoke/MethodHandle" ∧ y.cls ≠ "java/lang/invoke/VarHandle")
    {W9 : Nat} {Pre : Pt → Array Value → Prop} {Post : Pt → Array Value → Option Value → Pt → Prop} {PostX : Pt → Array Value → Addr → Pt → Prop} (hK : vx_Back l R p e below s args y 3 W9 Pre Post PostX)
    {g : JFrame} (hg : g.method = m) (hsize : g.locals.size = c.maxLocals) {argsL rest : List Value} (hlen : ∀ sig, parseMethodDescriptor y.desc = some sig → argsL.length = sig.parameters.length)
    (hstack : g.stack = argsL.reverse ++ rest) (hW : 2 * g.monitorRoom + (rest.map fun v => v.category).sum ≤ W9) (hdg : decode c.code g.pc = .ok (.invokestatic index, 3))
    (hpre : ∀ vm₁, s.WarmedH vm₁ → Pre ⟨T.setVm vm₁, locs, cells, slots⟩ argsL.toArray) :
    (∃ (v : Option Value) (vm₁ : Vm) (B : Pt), s.WarmedH vm₁ ∧ Stand p l e R s m args below meth c B.U B.locs B.cells B.slots ∧ Post ⟨T.setVm vm₁, locs, cells, slots⟩ argsL.toArray v B ∧
      ∀ target, Steps p.tables e below (B.U.setTop { g with pc := g.pc + 3, stack := v.toList ++ rest }) target → Steps p.tables e below (T.setTop g) target) ∨
    (∃ (q : Addr) (vm₁ : Vm) (B : Pt), s.WarmedH vm₁ ∧ Stand p l e R s m args below meth c B.U B.locs B.cells B.slots ∧ PostX ⟨T.setVm vm₁, locs, cells, slots⟩ argsL.toArray q B ∧
      Steps p.tables e below (T.setTop g) ((B.U.setTop { g with stack := rest }).pushFrame (.throwing q))) := by
  obtain ⟨mk, hnamed⟩ := Cond.code_named hcode
  obtain ⟨methM, cM, hmethM, -, -, -, -, -, -, hsigM⟩ := Cond.code_spec hnamed hcode
  have hstatic : methM.isStatic = true := Cond.static_spec hnamed hmethM hstat
  obtain ⟨kP, hkP, -⟩ := className_of_methodNamed hnamed
  have hinitP : kP.init = .initialized := Cond.initialized_spec (findClass_of_methodNamed hnamed) hkP hinit
  obtain ⟨vm₁, X₁, hstep₁⟩ := X.invokestatic hexec hown hlink hnamed hmethM hstatic hkP hinitP hy (g := g) hg (argsL := argsL) (rest := rest) (hlen _ hsigM) hstack hdg
  rcases hK m meth c ⟨T.setVm vm₁, locs, cells, slots⟩ { g with stack := rest } (.invokestatic index) mk argsL.toArray X₁ hg hsize hdg hW (X₁.named hnamed) (hpre vm₁ X₁.warmed) with ⟨v, B, X', hpost, hsteps⟩ | ⟨q, B, X', hpost, hsteps⟩
  · exact Or.inl ⟨v, vm₁, B, X₁.warmed, X', hpost, fun target h => hstep₁ _ fun acts => by rw [doInvoke_state]; exact hsteps.trans h⟩
  · exact Or.inr ⟨q, vm₁, B, X₁.warmed, X', hpost, hstep₁ _ fun acts => by rw [doInvoke_state]; exact hsteps⟩
end Calls
theorem vx_cls {s : State} {T : State} {vm₁ : Vm} {E : String} {k : ClassId} (hW : s.WarmedH vm₁) (h : (T.setVm vm₁).vm.findClass E = some k) : s.vm.findClass E = some k := by
  have h1 : vm₁.findClass E = some k := h
  rw [hW.alike.findClass] at h1
  exact h1
/-- the method's frame g, with q thrown over it -/
def vx_W (p : Program) (l : Launch) (e : Env) (R : Room) (s : State) (m : MethodId) (args : Array Value) (below : List Frame) (meth : Method) (c : Code) (H : Heap) (locs : List Loc) (cells slots : Nat) (Q : State → Prop) (g : JFrame) (q : Addr) : Prop :=
  ∀ T : State, T.heap = H → Stand p l e R s m args below meth c T locs cells slots → ∃ t, Steps p.tables e below ((T.setTop g).pushFrame (.throwing q)) t ∧ Q t
def vx_Run (p : Program) (l : Launch) (e : Env) (R : Room) (s : State) (m : MethodId) (args : Array Value) (below : List Frame) (meth : Method) (c : Code) (H : Heap) (locs : List Loc) (cells slots mc ms : Nat) (g : JFrame) (rest : List Value) (Qa : State → Outcome → State → Prop) (XC : String → State → State → Prop) (free : Addr → Prop) : Prop :=
  ∀ T : State, T.heap = H → Stand p l e R s m args below meth c T locs cells slots →
    (∃ (v : Option Value) (st₀ t T' : State) (L : List Loc), st₀.heap = H ∧ Stand p l e R s m args below meth c T' (locs ++ L) (cells + mc) (slots + ms) ∧ (∀ q ∈ L, free q.base) ∧ T'.heap = t.heap ∧ T'.vm = t.vm ∧ Qa st₀ (.returned v) t ∧
      Goes p e below T g T' { g with pc := g.pc + 3, stack := v.toList ++ rest }) ∨
    (∃ (q : Addr) (st₀ t T' : State) (L : List Loc) (E : String) (ce : Cell), st₀.heap = H ∧ Stand p l e R s m args below meth c T' (locs ++ L) (cells + mc) (slots + ms) ∧ (∀ z ∈ L, free z.base) ∧ T'.heap = t.heap ∧ T'.vm = t.vm ∧ XC E st₀ t ∧ t.heap[q]? = some ce ∧ ce.vm = .none ∧ s.vm.findClass E = some ce.cls ∧
      Steps p.tables e below (T.setTop g) ((T'.setTop { g with stack := rest }).pushFrame (.throwing q)))
def vx_X {S : Type} (px : S → Prop) (B : String → S → State → Prop) (A : Nat → Prop) : String → State → State → Prop := fun E st t => ∃ u : S, px u ∧ B E u t ∧ va_F A st t
section Runs
variable {p : Program} {l : Launch} {e : Env} {R : Room} {s : State} {m : MethodId} {args : Array Value} {below : List Frame} {meth : Method} {c : Code} {H : Heap} {locs : List Loc} {cells slots : Nat}
variable {y : MethodName} {bytes cc : ByteArray} {maxL nL mc ms n index : Nat} {ret : Option FieldType} {ws : List Cond} {rm : Room} {Pc : Array Value → State → Prop} {Qc : Array Value → State → Outcome → State → Prop} {XC : String → State → State → Prop} {free : Addr → Prop} {Ts : List Cond} {own C : String} {b : Addr} {As rest : List Value} {g : JFrame}
theorem vx_callBack (cb : CallB R s args own index y bytes maxL ret ws rm mc ms n) (hM : vx_Met l y ws rm Pc Qc XC mc ms free) (hbl : FrameBlind Pc) : vx_Back l R p e below s args y 3 8 (PreOf R mc ms Pc) (PostOf Qc mc ms free) (vx_Post XC mc ms free) := by
  obtain ⟨hrc, hrs, hfr, hlo, hws, hcw, -, hini, -⟩ := cb
  exact vx_back (bytes := bytes) (maxL := maxL) (ret := ret) hM hbl hrc hrs hfr hlo hws hcw (fun a' U hW => word_at hW (Or.inl (by first | rfl | simp [Cond.onTables, Cond.keeps, Cond.steady])) hini)
theorem vx_runV (S : CallFix p m c cc nL s args Ts own) (hM : vx_Met l y ws rm Pc Qc XC mc ms free) (cw : CallW R s args own C index y bytes maxL ret ws rm mc ms n) (hp : PreV s H C b Pc As)
    (hg : g.method = m) (hn : As.length = n) (hsize : g.locals.size = nL) (hstack : g.stack = As.reverse ++ .ref b :: rest) (hW : 2 * g.monitorRoom + (rest.map fun v => v.category).sum ≤ 8) (hdg : decode cc g.pc = .ok (.invokevirtual index, 3)) (hf : cells + mc ≤ R.cells ∧ slots + ms ≤ R.slots) :
    vx_Run p l e R s m args below meth c H locs cells slots mc ms g rest (Qc (Value.ref b :: As).toArray) XC free := by
  have hK : vx_Back l R p e below s args y 3 8 (PreOf R mc ms Pc) (PostOf Qc mc ms free) (vx_Post XC mc ms free) := vx_callBack cw.1 hM hp.1
  obtain ⟨⟨-, -, -, -, -, -, hcode, -, hy, hlen, hl⟩, hin, hse⟩ := cw
  obtain ⟨hx, hb, hml, ho, -⟩ := S
  obtain ⟨-, ⟨cellB, hcB, hoB, hclB⟩, hPc⟩ := hp
  intro T hT X
  rcases vx_callV X hx (C := C) (bytes := bytes) (maxL := maxL) (ret := ret) ho hl hin hse hcode hy hK (by rw [hT]; exact hcB) hoB hclB hg (hsize.trans hml.symm) (argsL := As) (rest := rest) (fun sig h => hn.trans (hlen sig h)) hstack hW (by rw [hb]; exact hdg)
    (fun vm₁ hW₁ => ⟨hf.1, hf.2, hPc (T.setVm vm₁) hT hW₁⟩) with ⟨v, vm₁, ⟨U', l2, c2, s2⟩, hW₁, X', ⟨g', mk, t, L, e1, e2, hq, h1, hL, h2, h3⟩, st⟩ | ⟨q, vm₁, ⟨U', l2, c2, s2⟩, hW₁, X', ⟨g', mk, t, L, E, ce, e1, e2, hq, hce, hcv, hcl, h1, hL, h2, h3⟩, st⟩
  · dsimp only [Pt.U, Pt.locs, Pt.cells, Pt.slots] at X' e1 e2 h1 h2 h3 st
    subst h1; subst h2; subst h3
    exact Or.inl ⟨v, (T.setVm vm₁).calling g' mk (Value.ref b :: As).toArray, t, U', L, hT, X', hL, e1, e2, hq, st⟩
  · dsimp only [Pt.U, Pt.locs, Pt.cells, Pt.slots] at X' e1 e2 h1 h2 h3 st hcl
    subst h1; subst h2; subst h3
    exact Or.inr ⟨q, (T.setVm vm₁).calling g' mk (Value.ref b :: As).toArray, t, U', L, E, ce, hT, X', hL, e1, e2, hq, hce, hcv, vx_cls hW₁ hcl, st⟩
theorem vx_runS (S : CallFix p m c cc nL s args Ts own) (hM : vx_Met l y ws rm Pc Qc XC mc ms free) (cw : CallB R s args own index y bytes maxL ret ws rm mc ms n ∧ (Cond.static y).before args s = true) (hp : PreS s H Pc As)
    (hg : g.method = m) (hn : As.length = n) (hsize : g.locals.size = nL) (hstack : g.stack = As.reverse ++ rest) (hW : 2 * g.monitorRoom + (rest.map fun v => v.category).sum ≤ 8) (hdg : decode cc g.pc = .ok (.invokestatic index, 3)) (hf : cells + mc ≤ R.cells ∧ slots + ms ≤ R.slots) :
    vx_Run p l e R s m args below meth c H locs cells slots mc ms g rest (Qc As.toArray) XC free := by
  have hK : vx_Back l R p e below s args y 3 8 (PreOf R mc ms Pc) (PostOf Qc mc ms free) (vx_Post XC mc ms free) := vx_callBack cw.1 hM hp.1
  obtain ⟨⟨-, -, -, -, -, -, hcode, hini, hy, hlen, hl⟩, hstt⟩ := cw
  obtain ⟨hx, hb, hml, ho, -⟩ := S
  intro T hT X
  rcases vx_callS X hx (bytes := bytes) (maxL := maxL) (ret := ret) ho hl hstt hini hcode hy hK hg (hsize.trans hml.symm) (argsL := As) (rest := rest) (fun sig h => hn.trans (hlen sig h)) hstack hW (by rw [hb]; exact hdg)
    (fun vm₁ hW₁ => ⟨hf.1, hf.2, hp.2 (T.setVm vm₁) hT hW₁⟩) with ⟨v, vm₁, ⟨U', l2, c2, s2⟩, hW₁, X', ⟨g', mk, t, L, e1, e2, hq, h1, hL, h2, h3⟩, st⟩ | ⟨q, vm₁, ⟨U', l2, c2, s2⟩, hW₁, X', ⟨g', mk, t, L, E, ce, e1, e2, hq, hce, hcv, hcl, h1, hL, h2, h3⟩, st⟩
  · dsimp only [Pt.U, Pt.locs, Pt.cells, Pt.slots] at X' e1 e2 h1 h2 h3 st
    subst h1; subst h2; subst h3
    exact Or.inl ⟨v, (T.setVm vm₁).calling g' mk As.toArray, t, U', L, hT, X', hL, e1, e2, hq, st⟩
  · dsimp only [Pt.U, Pt.locs, Pt.cells, Pt.slots] at X' e1 e2 h1 h2 h3 st hcl
    subst h1; subst h2; subst h3
    exact Or.inr ⟨q, (T.setVm vm₁).calling g' mk As.toArray, t, U', L, E, ce, hT, X', hL, e1, e2, hq, hce, hcv, vx_cls hW₁ hcl, st⟩
end Runs
section Rows
variable {p : Program} {l : Launch} {e : Env} {R : Room} {s : State} {m : MethodId} {args : Array Value} {below : List Frame} {meth : Method} {c : Code} {H : Heap} {locs : List Loc} {cells slots : Nat} {Q : State → Prop}
variable {mc ms : Nat} {free : Addr → Prop} {A0 A1 : Nat → Prop} {H0 : Heap} {a : Array Value} {pc : Nat} {ls : Array Slot} {st0 rest : List Value}
theorem vx_keep {st₀ t T' : State} {L : List Loc} (h0 : st₀.heap = H) (e1 : T'.heap = t.heap) (hS : va_S A0 H0 H locs) (hA : ∀ q, q < H.size → A1 q → A0 q) (hf : ∀ q, free q → A0 q) (hL : ∀ q ∈ L, free q.base) (hF : va_F A1 st₀ t) :
    H.size ≤ T'.heap.size ∧ (∀ q : Nat, q < H.size → ¬ A1 q → T'.heap[q]? = H[q]?) ∧ va_S A0 H0 T'.heap (locs ++ L) := by
  obtain ⟨hz, hk⟩ := hF
  rw [h0] at hz hk
  exact ⟨by rw [e1]; exact hz, fun q h1 h2 => by rw [e1]; exact hk q h1 h2,
    ⟨Nat.le_trans hS.1 (by rw [e1]; exact hz), fun q h1 h2 => by rw [e1, hk q (Nat.lt_of_lt_of_le h1 hS.1) (fun z => h2 (hA q (Nat.lt_of_lt_of_le h1 hS.1) z))]; exact hS.2.1 q h1 h2, fun q hq => by
      rcases List.mem_append.mp hq with h | h
      · exact hS.2.2 q h
      · exact hf _ (hL q h)⟩⟩
theorem vx_calli {S SX : Type} {post : Int32 → S → Prop} {px : SX → Prop} {B : S → State → Prop} {BX : String → SX → State → Prop} {AX : Nat → Prop} (hr : vx_Run p l e R s m args below meth c H locs cells slots mc ms (F0 m pc ls st0) rest (va_Qi post B A1 a) (vx_X px BX AX) free) (hS : va_S A0 H0 H locs) (hA : ∀ q, q < H.size → A1 q → A0 q) (hf : ∀ q, free q → A0 q) (hAX : ∀ q, q < H.size → AX q → A0 q)
    (kx : ∀ (E : String) (ce : Cell) (q9 : Addr) (u : SX) (t : State) (H1 : Heap) (locs1 : List Loc), t.heap = H1 → s.vm.Alike t.vm → px u → BX E u t → H.size ≤ H1.size → (∀ q : Nat, q < H.size → ¬ AX q → H1[q]? = H[q]?) → va_S A0 H0 H1 locs1 → H1[q9]? = some ce → ce.vm = .none → s.vm.findClass E = some ce.cls → vx_W p l e R s m args below meth c H1 locs1 (cells + mc) (slots + ms) Q (F0 m pc ls rest) q9)
    (kk : ∀ (r : Int32) (u : S) (t : State) (H1 : Heap) (locs1 : List Loc), t.heap = H1 → s.vm.Alike t.vm → post r u → B u t → H.size ≤ H1.size → (∀ q : Nat, q < H.size → ¬ A1 q → H1[q]? = H[q]?) → va_S A0 H0 H1 locs1 → W p l e R s m args below meth c H1 locs1 (cells + mc) (slots + ms) Q (F0 m (pc + 3) ls (.int r :: rest))) : W p l e R s m args below meth c H locs cells slots Q (F0 m pc ls st0) := by
  intro T hT X
  rcases hr T hT X with ⟨v, st₀, t, T', L, h0, X', hL, e1, e2, ⟨⟨r, u, hv, hp, hb⟩, hF⟩, st⟩ | ⟨q, st₀, t, T', L, E, ce, h0, X', hL, e1, e2, ⟨u, hp, hb, hF⟩, hce, hcv, hcl, st⟩
  · cases hv
    obtain ⟨k1, k2, k3⟩ := vx_keep h0 e1 hS hA hf hL hF
    obtain ⟨t2, a1, b1⟩ := kk r u t T'.heap (locs ++ L) e1.symm (by rw [← e2]; exact X'.warmed.alike) hp hb k1 k2 k3 T' rfl X'
    exact ⟨t2, st t2 a1, b1⟩
  · obtain ⟨k1, k2, k3⟩ := vx_keep h0 e1 hS hAX hf hL hF
    obtain ⟨t2, a1, b1⟩ := kx E ce q u t T'.heap (locs ++ L) e1.symm (by rw [← e2]; exact X'.warmed.alike) hp hb k1 k2 k3 (by rw [e1]; exact hce) hcv hcl T' rfl X'
    exact ⟨t2, st.trans a1, b1⟩
theorem vx_calll {S SX : Type} {post : Int64 → S → Prop} {px : SX → Prop} {B : S → State → Prop} {BX : String → SX → State → Prop} {AX : Nat → Prop} (hr : vx_Run p l e R s m args below meth c H locs cells slots mc ms (F0 m pc ls st0) rest (va_Ql post B A1 a) (vx_X px BX AX) free) (hS : va_S A0 H0 H locs) (hA : ∀ q, q < H.size → A1 q → A0 q) (hf : ∀ q, free q → A0 q) (hAX : ∀ q, q < H.size → AX q → A0 q)
    (kx : ∀ (E : String) (ce : Cell) (q9 : Addr) (u : SX) (t : State) (H1 : Heap) (locs1 : List Loc), t.heap = H1 → s.vm.Alike t.vm → px u → BX E u t → H.size ≤ H1.size → (∀ q : Nat, q < H.size → ¬ AX q → H1[q]? = H[q]?) → va_S A0 H0 H1 locs1 → H1[q9]? = some ce → ce.vm = .none → s.vm.findClass E = some ce.cls → vx_W p l e R s m args below meth c H1 locs1 (cells + mc) (slots + ms) Q (F0 m pc ls rest) q9)
    (kk : ∀ (r : Int64) (u : S) (t : State) (H1 : Heap) (locs1 : List Loc), t.heap = H1 → s.vm.Alike t.vm → post r u → B u t → H.size ≤ H1.size → (∀ q : Nat, q < H.size → ¬ A1 q → H1[q]? = H[q]?) → va_S A0 H0 H1 locs1 → W p l e R s m args below meth c H1 locs1 (cells + mc) (slots + ms) Q (F0 m (pc + 3) ls (.long r :: rest))) : W p l e R s m args below meth c H locs cells slots Q (F0 m pc ls st0) := by
  intro T hT X
  rcases hr T hT X with ⟨v, st₀, t, T', L, h0, X', hL, e1, e2, ⟨⟨r, u, hv, hp, hb⟩, hF⟩, st⟩ | ⟨q, st₀, t, T', L, E, ce, h0, X', hL, e1, e2, ⟨u, hp, hb, hF⟩, hce, hcv, hcl, st⟩
  · cases hv
    obtain ⟨k1, k2, k3⟩ := vx_keep h0 e1 hS hA hf hL hF
    obtain ⟨t2, a1, b1⟩ := kk r u t T'.heap (locs ++ L) e1.symm (by rw [← e2]; exact X'.warmed.alike) hp hb k1 k2 k3 T' rfl X'
    exact ⟨t2, st t2 a1, b1⟩
  · obtain ⟨k1, k2, k3⟩ := vx_keep h0 e1 hS hAX hf hL hF
    obtain ⟨t2, a1, b1⟩ := kx E ce q u t T'.heap (locs ++ L) e1.symm (by rw [← e2]; exact X'.warmed.alike) hp hb k1 k2 k3 (by rw [e1]; exact hce) hcv hcl T' rfl X'
    exact ⟨t2, st.trans a1, b1⟩
theorem vx_callf {S SX : Type} {post : UInt32 → S → Prop} {px : SX → Prop} {B : S → State → Prop} {BX : String → SX → State → Prop} {AX : Nat → Prop} (hr : vx_Run p l e R s m args below meth c H locs cells slots mc ms (F0 m pc ls st0) rest (va_Qf post B A1 a) (vx_X px BX AX) free) (hS : va_S A0 H0 H locs) (hA : ∀ q, q < H.size → A1 q → A0 q) (hf : ∀ q, free q → A0 q) (hAX : ∀ q, q < H.size → AX q → A0 q)
    (kx : ∀ (E : String) (ce : Cell) (q9 : Addr) (u : SX) (t : State) (H1 : Heap) (locs1 : List Loc), t.heap = H1 → s.vm.Alike t.vm → px u → BX E u t → H.size ≤ H1.size → (∀ q : Nat, q < H.size → ¬ AX q → H1[q]? = H[q]?) → va_S A0 H0 H1 locs1 → H1[q9]? = some ce → ce.vm = .none → s.vm.findClass E = some ce.cls → vx_W p l e R s m args below meth c H1 locs1 (cells + mc) (slots + ms) Q (F0 m pc ls rest) q9)
    (kk : ∀ (r : UInt32) (u : S) (t : State) (H1 : Heap) (locs1 : List Loc), t.heap = H1 → s.vm.Alike t.vm → post r u → B u t → H.size ≤ H1.size → (∀ q : Nat, q < H.size → ¬ A1 q → H1[q]? = H[q]?) → va_S A0 H0 H1 locs1 → W p l e R s m args below meth c H1 locs1 (cells + mc) (slots + ms) Q (F0 m (pc + 3) ls (.float r :: rest))) : W p l e R s m args below meth c H locs cells slots Q (F0 m pc ls st0) := by
  intro T hT X
  rcases hr T hT X with ⟨v, st₀, t, T', L, h0, X', hL, e1, e2, ⟨⟨r, u, hv, hp, hb⟩, hF⟩, st⟩ | ⟨q, st₀, t, T', L, E, ce, h0, X', hL, e1, e2, ⟨u, hp, hb, hF⟩, hce, hcv, hcl, st⟩
  · cases hv
    obtain ⟨k1, k2, k3⟩ := vx_keep h0 e1 hS hA hf hL hF
    obtain ⟨t2, a1, b1⟩ := kk r u t T'.heap (locs ++ L) e1.symm (by rw [← e2]; exact X'.warmed.alike) hp hb k1 k2 k3 T' rfl X'
    exact ⟨t2, st t2 a1, b1⟩
  · obtain ⟨k1, k2, k3⟩ := vx_keep h0 e1 hS hAX hf hL hF
    obtain ⟨t2, a1, b1⟩ := kx E ce q u t T'.heap (locs ++ L) e1.symm (by rw [← e2]; exact X'.warmed.alike) hp hb k1 k2 k3 (by rw [e1]; exact hce) hcv hcl T' rfl X'
    exact ⟨t2, st.trans a1, b1⟩
theorem vx_calld {S SX : Type} {post : UInt64 → S → Prop} {px : SX → Prop} {B : S → State → Prop} {BX : String → SX → State → Prop} {AX : Nat → Prop} (hr : vx_Run p l e R s m args below meth c H locs cells slots mc ms (F0 m pc ls st0) rest (va_Qd post B A1 a) (vx_X px BX AX) free) (hS : va_S A0 H0 H locs) (hA : ∀ q, q < H.size → A1 q → A0 q) (hf : ∀ q, free q → A0 q) (hAX : ∀ q, q < H.size → AX q → A0 q)
    (kx : ∀ (E : String) (ce : Cell) (q9 : Addr) (u : SX) (t : State) (H1 : Heap) (locs1 : List Loc), t.heap = H1 → s.vm.Alike t.vm → px u → BX E u t → H.size ≤ H1.size → (∀ q : Nat, q < H.size → ¬ AX q → H1[q]? = H[q]?) → va_S A0 H0 H1 locs1 → H1[q9]? = some ce → ce.vm = .none → s.vm.findClass E = some ce.cls → vx_W p l e R s m args below meth c H1 locs1 (cells + mc) (slots + ms) Q (F0 m pc ls rest) q9)
    (kk : ∀ (r : UInt64) (u : S) (t : State) (H1 : Heap) (locs1 : List Loc), t.heap = H1 → s.vm.Alike t.vm → post r u → B u t → H.size ≤ H1.size → (∀ q : Nat, q < H.size → ¬ A1 q → H1[q]? = H[q]?) → va_S A0 H0 H1 locs1 → W p l e R s m args below meth c H1 locs1 (cells + mc) (slots + ms) Q (F0 m (pc + 3) ls (.double r :: rest))) : W p l e R s m args below meth c H locs cells slots Q (F0 m pc ls st0) := by
  intro T hT X
  rcases hr T hT X with ⟨v, st₀, t, T', L, h0, X', hL, e1, e2, ⟨⟨r, u, hv, hp, hb⟩, hF⟩, st⟩ | ⟨q, st₀, t, T', L, E, ce, h0, X', hL, e1, e2, ⟨u, hp, hb, hF⟩, hce, hcv, hcl, st⟩
  · cases hv
    obtain ⟨k1, k2, k3⟩ := vx_keep h0 e1 hS hA hf hL hF
    obtain ⟨t2, a1, b1⟩ := kk r u t T'.heap (locs ++ L) e1.symm (by rw [← e2]; exact X'.warmed.alike) hp hb k1 k2 k3 T' rfl X'
    exact ⟨t2, st t2 a1, b1⟩
  · obtain ⟨k1, k2, k3⟩ := vx_keep h0 e1 hS hAX hf hL hF
    obtain ⟨t2, a1, b1⟩ := kx E ce q u t T'.heap (locs ++ L) e1.symm (by rw [← e2]; exact X'.warmed.alike) hp hb k1 k2 k3 (by rw [e1]; exact hce) hcv hcl T' rfl X'
    exact ⟨t2, st.trans a1, b1⟩
theorem vx_callv {S SX : Type} {post : S → Prop} {px : SX → Prop} {B : S → State → Prop} {BX : String → SX → State → Prop} {AX : Nat → Prop} (hr : vx_Run p l e R s m args below meth c H locs cells slots mc ms (F0 m pc ls st0) rest (va_Qv post B A1 a) (vx_X px BX AX) free) (hS : va_S A0 H0 H locs) (hA : ∀ q, q < H.size → A1 q → A0 q) (hf : ∀ q, free q → A0 q) (hAX : ∀ q, q < H.size → AX q → A0 q)
    (kx : ∀ (E : String) (ce : Cell) (q9 : Addr) (u : SX) (t : State) (H1 : Heap) (locs1 : List Loc), t.heap = H1 → s.vm.Alike t.vm → px u → BX E u t → H.size ≤ H1.size → (∀ q : Nat, q < H.size → ¬ AX q → H1[q]? = H[q]?) → va_S A0 H0 H1 locs1 → H1[q9]? = some ce → ce.vm = .none → s.vm.findClass E = some ce.cls → vx_W p l e R s m args below meth c H1 locs1 (cells + mc) (slots + ms) Q (F0 m pc ls rest) q9)
    (kk : ∀ (u : S) (t : State) (H1 : Heap) (locs1 : List Loc), t.heap = H1 → s.vm.Alike t.vm → post u → B u t → H.size ≤ H1.size → (∀ q : Nat, q < H.size → ¬ A1 q → H1[q]? = H[q]?) → va_S A0 H0 H1 locs1 → W p l e R s m args below meth c H1 locs1 (cells + mc) (slots + ms) Q (F0 m (pc + 3) ls (rest))) : W p l e R s m args below meth c H locs cells slots Q (F0 m pc ls st0) := by
  intro T hT X
  rcases hr T hT X with ⟨v, st₀, t, T', L, h0, X', hL, e1, e2, ⟨⟨u, hv, hp, hb⟩, hF⟩, st⟩ | ⟨q, st₀, t, T', L, E, ce, h0, X', hL, e1, e2, ⟨u, hp, hb, hF⟩, hce, hcv, hcl, st⟩
  · cases hv
    obtain ⟨k1, k2, k3⟩ := vx_keep h0 e1 hS hA hf hL hF
    obtain ⟨t2, a1, b1⟩ := kk u t T'.heap (locs ++ L) e1.symm (by rw [← e2]; exact X'.warmed.alike) hp hb k1 k2 k3 T' rfl X'
    exact ⟨t2, st t2 a1, b1⟩
  · obtain ⟨k1, k2, k3⟩ := vx_keep h0 e1 hS hAX hf hL hF
    obtain ⟨t2, a1, b1⟩ := kx E ce q u t T'.heap (locs ++ L) e1.symm (by rw [← e2]; exact X'.warmed.alike) hp hb k1 k2 k3 (by rw [e1]; exact hce) hcv hcl T' rfl X'
    exact ⟨t2, st.trans a1, b1⟩
/-- caught by the row x of this method's table; the rows ahead don't take it -/
theorem vx_catch {own name : String} {E : String} {ce : Cell} {q : Addr} (hown : s.vm.findClass own = some m.cls) (pre : List ExceptionTableEntry) (x : ExceptionTableEntry) (suf : List ExceptionTableEntry) (hsplit : c.exceptionTable.toList = pre ++ x :: suf)
    (hpass : ∀ z ∈ pre, covers z pc = false ∨ (z.catchType ≠ 0 ∧ ∃ nm : String, (Cond.classLink own z.catchType nm).before args s = true ∧ va_Nc E nm s)) (hx : covers x pc = true) (h0 : x.catchType ≠ 0)
    (hlink : (Cond.classLink own x.catchType name).before args s = true) (hcast : (Cond.castable E name).before args s = true) (hcell : H[q]? = some ce) (hv : ce.vm = .none) (hcl : s.vm.findClass E = some ce.cls)
    (kk : W p l e R s m args below meth c H locs cells slots Q (F0 m x.handlerPc ls [.ref q])) : vx_W p l e R s m args below meth c H locs cells slots Q (F0 m pc ls rest) q := by
  intro T hT X
  have hpl : e.platform.magicAccessors = ({} : Platform).magicAccessors := by rw [X.admits.platform]
  obtain ⟨c3, c4, hc3, hc4, hasg⟩ := Cond.castable_spec hcast
  cases Option.some.inj (hc3.symm.trans hcl)
  obtain ⟨c5, hc5, hcl5⟩ := Cond.classLink_spec hown hlink e.platform hpl
  cases Option.some.inj (hc4.symm.trans hc5)
  obtain ⟨vm', X', st⟩ := X.thenCaughtThrough q (g := F0 m pc ls rest) rfl (Steps.refl _) (by rw [hT]; exact hcell) (by rw [hv]; rfl) (by obtain ⟨k9, h9, -⟩ := Vm.findClass_spec hcl; exact ⟨k9, h9⟩) pre x suf hsplit
    (fun z hz => by
      rcases hpass z hz with h | ⟨hz0, nm, hl1, hn1⟩
      · exact Or.inl h
      · obtain ⟨c6, hc6, hcl6⟩ := Cond.classLink_spec hown hl1 e.platform hpl
        obtain ⟨a8, b8, h1, h2, h3⟩ := hn1
        cases Option.some.inj (h1.symm.trans hcl)
        cases Option.some.inj (h2.symm.trans hc6)
        exact Or.inr ⟨hz0, _, hcl6, h3⟩) hx (Or.inr ⟨h0, c4, hcl5, hasg⟩)
  obtain ⟨t, a1, b1⟩ := kk (T.setVm vm') hT X'
  exact ⟨t, st.trans a1, b1⟩
end Rows
section Ends
variable {p : Program} {l : Launch} {e : Env} {R : Room} {s : State} {m : MethodId} {args : Array Value} {below : List Frame} {meth : Method} {c : Code} {H : Heap} {locs : List Loc} {cells slots : Nat} {Q : State → Prop}
variable {mc ms : Nat} {free : Addr → Prop} {A0 A1 : Nat → Prop} {H0 : Heap} {a : Array Value} {ls : Array Slot} {st0 rest : List Value}
variable {Qc : Array Value → State → Outcome → State → Prop} {XC : String → State → State → Prop}
/-- what a body that may throw owes at its end -/
def vx_MQ (below : List Frame) (Qc : Array Value → State → Outcome → State → Prop) (XC : String → State → State → Prop) (a : Array Value) (s : State) (mc ms : Nat) (free : Addr → Prop) : State → Prop := fun t =>
  ∃ o, t.status = .running ∧ Ended t below o ∧ vx_Q Qc XC mc ms free a s o t
theorem vx_ret {g : JFrame} {mc ms : Nat} (k : W p l e R s m args below meth c H locs cells slots (MQ below Qc args s mc ms free) g) : W p l e R s m args below meth c H locs cells slots (vx_MQ below Qc XC args s mc ms free) g := by
  intro T hT X
  obtain ⟨t, a1, o, b1, b2, b3, b4⟩ := k T hT X
  exact ⟨t, a1, o, b1, b2, Or.inl ⟨b3, b4⟩⟩
/-- not caught here: it goes on to the caller -/
theorem vx_widen {g : JFrame} {q : Addr} {k n : Nat} (h1 : cells ≤ k) (h2 : slots ≤ n) (kk : vx_W p l e R s m args below meth c H locs k n Q g q) : vx_W p l e R s m args below meth c H locs cells slots Q g q := fun T hT X => kk T hT (stand_widen X h1 h2)
theorem vx_out {pc : Nat} {E : String} {ce : Cell} {q : Addr} {mc ms : Nat} (hout : ∀ x ∈ c.exceptionTable.toList, covers x pc = false) (hlocks : meth.locks = false) (hcell : H[q]? = some ce) (hv : ce.vm = .none) (hcl : s.vm.findClass E = some ce.cls)
    (hx : ∀ t : State, t.heap = H → s.vm.Alike t.vm → XC E s t) (hf : ∀ z ∈ locs, free z.base) (hc : cells ≤ mc) (hs : slots ≤ ms) :
    vx_W p l e R s m args below meth c H locs cells slots (vx_MQ below Qc XC args s mc ms free) (F0 m pc ls rest) q := by
  intro T hT X
  obtain ⟨st1, hrun, hend, hW, hsm⟩ := X.leaveThrown q (g := F0 m pc ls rest) rfl rfl rfl hout hlocks
  have hcell9 : (T.setFrames (.throwing q :: below)).heap[q]? = some ce := by
    show T.heap[q]? = some ce
    rw [hT]; exact hcell
  exact ⟨_, st1, .threw q, hrun, hend, Or.inr ⟨q, rfl, E, ce, locs, hx _ hT hW.alike, hcell9, hv, hcl, hW, hsm.mono hc hs, hf⟩⟩
theorem vx_frame {U : State} {k n : Nat} (h : s.sameButNew ({ U with vm := s.vm } : State) locs k n) : s.heap.size ≤ U.heap.size ∧ ∀ q : Nat, q < s.heap.size → (∀ z ∈ locs, z.base ≠ q) → U.heap[q]? = s.heap[q]? := by
  obtain ⟨-, h2, -, -, -, h6⟩ := h
  refine ⟨h2, fun q hq hz => ?_⟩
  obtain ⟨c9, e1, e2, e3, e4⟩ := h6 q _ (Array.getElem?_eq_getElem hq)
  have hs : c9.slots = (s.heap[q]).slots := Array.ext_getElem? fun i => e4 i fun hm => hz _ hm rfl
  have h9 : c9 = s.heap[q] := by
    rw [hs] at e2
    exact e2
  have e5 : U.heap[q]? = some c9 := e1
  rw [e5, h9, Array.getElem?_eq_getElem hq]
/-- the words of a throw but the four that speak of the heap -/
def vx_no (w : Cond) : Bool := decide (w ≠ .isRef (.static Bundle.tN "UNASSIGNED_STACK" Bundle.steD)) && decide (w ≠ .isRef (.static Bundle.tN "SUPPRESSED_SENTINEL" Bundle.listD)) && decide (w ≠ .laysStatic Bundle.tN "UNASSIGNED_STACK" Bundle.steD) && decide (w ≠ .laysStatic Bundle.tN "SUPPRESSED_SENTINEL" Bundle.listD)
def vx_at0 (own : String) (ic : Nat) (X : String) (names : List String) : List Cond := (Bundle.ownAtoms0 own ic X names).filter vx_no
def vx_atS (own : String) (ic : Nat) (X : String) (names : List String) : List Cond := (Bundle.ownAtoms own ic X names).filter vx_no
/-- a word that the tables alone decide, or a good one -/
def vx_ot (w : Cond) : Bool := w.onTables || goodWord w
theorem vx_ot_at {args a' : Array Value} {s U : State} {w : Cond} (hW : s.WarmedH U.vm) (hvm : s.vm = U.vm) (hg : vx_ot w = true) (h : w.before args s = true) : w.before a' U = true := by
  simp only [vx_ot, Bool.or_eq_true] at hg
  rcases hg with hg | hg
  · exact va_tabs hg hvm h
  · exact word_at hW (good_of_word hg) h
/-- a list's words: the good ones out of the method's own list, the others by premises of their own -/
theorem vx_hat {args : Array Value} {s : State} {L B : List Cond} (h1 : ∀ w ∈ L.filter goodWord, w.before args s = true) (h2 : ∀ w ∈ L.filter (fun w => !goodWord w), w ∈ B) (h3 : ∀ w ∈ B, w.before args s = true) : ∀ w ∈ L, w.before args s = true := by
  intro w hw
  by_cases g : goodWord w = true
  · exact h1 w (List.mem_filter.mpr ⟨hw, g⟩)
  · refine h3 w (h2 w (List.mem_filter.mpr ⟨hw, ?_⟩))
    show (!goodWord w) = true
    cases hgw : goodWord w
    · rfl
    · exact absurd hgw g
theorem vx_c {args : Array Value} {s : State} {w : Cond} {B : List Cond} (h : w.before args s = true) (t : ∀ w ∈ B, w.before args s = true) : ∀ w' ∈ w :: B, w'.before args s = true := fun w' h' => (List.mem_cons.mp h').elim (fun e => by rw [e]; exact h) (t w')
theorem vx_n {args : Array Value} {s : State} : ∀ w ∈ ([] : List Cond), w.before args s = true := fun _ h => nomatch h
theorem vx_own {args : Array Value} {s : State} {L : List Cond} (h1 : ∀ w ∈ L.filter vx_no, w.before args s = true)
    (hU : (Cond.isRef (.static Bundle.tN "UNASSIGNED_STACK" Bundle.steD)).before args s = true) (hN : (Cond.isRef (.static Bundle.tN "SUPPRESSED_SENTINEL" Bundle.listD)).before args s = true)
    (lU : (Cond.laysStatic Bundle.tN "UNASSIGNED_STACK" Bundle.steD).before args s = true) (lN : (Cond.laysStatic Bundle.tN "SUPPRESSED_SENTINEL" Bundle.listD).before args s = true) : ∀ w ∈ L, w.before args s = true := by
  intro w hw
  by_cases e1 : w = .isRef (.static Bundle.tN "UNASSIGNED_STACK" Bundle.steD)
  · rw [e1]; exact hU
  · by_cases e2 : w = .isRef (.static Bundle.tN "SUPPRESSED_SENTINEL" Bundle.listD)
    · rw [e2]; exact hN
    · by_cases e3 : w = .laysStatic Bundle.tN "UNASSIGNED_STACK" Bundle.steD
      · rw [e3]; exact lU
      · by_cases e4 : w = .laysStatic Bundle.tN "SUPPRESSED_SENTINEL" Bundle.listD
        · rw [e4]; exact lN
        · exact h1 w (List.mem_filter.mpr ⟨hw, by unfold vx_no; rw [decide_eq_true e1, decide_eq_true e2, decide_eq_true e3, decide_eq_true e4]; rfl⟩)
/-- where a static field lies, its class's statics cell in H -/
def vx_L (C n d : String) (A : Nat → Prop) (U : State) (H : Heap) : Prop := ∃ (c : ClassId) (k : Class) (i : Nat) (f : Field) (a : Nat) (cell : Cell), U.vm.findClass C = some c ∧ U.fieldFound? C n d = some (c, k, i, f) ∧ f.isStatic = true ∧ k.statics = some a ∧ H[a]? = some cell ∧ cell.vm.isStatics = true ∧ cell.cls = c ∧ f.slot < cell.slots.size ∧ k.staticTypes[f.slot]? = some f.type ∧ ¬ A a
theorem vx_L.moved {C n d : String} {A : Nat → Prop} {u U : State} {H : Heap} (hvm : u.vm.Alike U.vm) (h : vx_L C n d A u H) : vx_L C n d A U H := by
  obtain ⟨c, k, i, f, a, cell, h1, h2, h3, h4, h5, h6, h7, h8, h9, h10⟩ := h
  obtain ⟨k', hi', he⟩ := State.fieldFound?_setVm hvm h2
  exact ⟨c, k', i, f, a, cell, by rw [hvm.findClass]; exact h1, hi', h3, by rw [he]; exact h4, h5, h6, h7, h8, by rw [he]; exact h9, h10⟩
theorem vx_L.kept {C n d : String} {A : Nat → Prop} {U : State} {H H1 : Heap} (h : vx_L C n d A U H) (hq : ∀ a : Nat, a < H.size → ¬ A a → H1[a]? = H[a]?) : vx_L C n d A U H1 := by
  obtain ⟨c, k, i, f, a, cell, h1, h2, h3, h4, h5, h6, h7, h8, h9, h10⟩ := h
  exact ⟨c, k, i, f, a, cell, h1, h2, h3, h4, by rw [hq a (Array.getElem?_eq_some_iff.mp h5).1 h10]; exact h5, h6, h7, h8, h9, h10⟩
theorem vx_L.narrow {C n d : String} {A B : Nat → Prop} {U : State} {H : Heap} (h : vx_L C n d A U H) (hAB : ∀ q, B q → A q) : vx_L C n d B U H := by
  obtain ⟨c, k, i, f, a, cell, h1, h2, h3, h4, h5, h6, h7, h8, h9, h10⟩ := h
  exact ⟨c, k, i, f, a, cell, h1, h2, h3, h4, h5, h6, h7, h8, h9, fun z => h10 (hAB _ z)⟩
theorem vx_L.word {C n d : String} {A : Nat → Prop} {s : State} {args : Array Value} (h : vx_L C n d A s s.heap) : (Cond.laysStatic C n d).before args s = true := by
  obtain ⟨c, k, i, f, a, cell, h1, h2, h3, h4, h5, h6, h7, h8, h9, -⟩ := h
  show (Cond.laysStatic C n d).holds args s none s [] = true
  exact Cond.laysStatic_of h1 h2 h3 h4 h5 h6 h7 h8 h9
/-- .. and what it holds: null or some reference -/
def vx_Zq (C n d : String) (A : Nat → Prop) (U : State) (H : Heap) : Prop := va_Zq C n d A U H ∧ vx_L C n d A U H
theorem vx_Zq.moved {C n d : String} {A : Nat → Prop} {u U : State} {H : Heap} (hvm : u.vm.Alike U.vm) (h : vx_Zq C n d A u H) : vx_Zq C n d A U H := ⟨va_Zq.moved hvm h.1, vx_L.moved hvm h.2⟩
theorem vx_Zq.kept {C n d : String} {A : Nat → Prop} {U : State} {H H1 : Heap} (h : vx_Zq C n d A U H) (hq : ∀ a : Nat, a < H.size → ¬ A a → H1[a]? = H[a]?) : vx_Zq C n d A U H1 := ⟨va_Zq.kept h.1 hq, vx_L.kept h.2 hq⟩
theorem vx_Zq.narrow {C n d : String} {A B : Nat → Prop} {U : State} {H : Heap} (h : vx_Zq C n d A U H) (hAB : ∀ q, B q → A q) : vx_Zq C n d B U H := ⟨va_Zq.narrow h.1 hAB, vx_L.narrow h.2 hAB⟩
theorem vx_Zqof {args : Array Value} {s : State} {C n d : String} {A : Nat → Prop} (hl : (Cond.laysStatic C n d).before args s = true) (hini : (Cond.initialized C).before args s = true) (h : (Cond.isRef (.static C n d)).before args s = true) (hA : ∀ a : Nat, a < s.heap.size → ¬ A a) : vx_Zq C n d A s s.heap := by
  refine ⟨va_Zqof hl hini h hA, ?_⟩
  obtain ⟨c, k, i, f, a, cell, h1, h2, h3, h4, h5, h6, h7, h8, h9⟩ := Cond.laysStatic_spec hl
  exact ⟨c, k, i, f, a, cell, h1, h2, h3, h4, h5, h6, h7, h8, h9, hA a (Array.getElem?_eq_some_iff.mp h5).1⟩
theorem vx_isRef {C n d : String} {v : Value} {A : Nat → Prop} {s : State} {args : Array Value} (h : va_Z C n d v A s s.heap) (hv : v.isRef = true) : (Cond.isRef (.static C n d)).before args s = true := by
  obtain ⟨cf, kf, fi, f, a, cell, h1, h2, h3, h4, h5, h6, h7, -⟩ := h
  have he : (Term.static C n d).eval args s none [] s = some v := by
    simp [Term.eval, State.fieldNamed?, h1, h2, h4, h5, h6, h7]
  simp only [Cond.before, Cond.holds, Cond.value, he]
  cases v <;> simp_all [Value.isRef]
theorem vx_isRefq {C n d : String} {A : Nat → Prop} {s : State} {args : Array Value} (h : va_Zq C n d A s s.heap) : (Cond.isRef (.static C n d)).before args s = true := by
  rcases h with h | ⟨t, h⟩
  · exact vx_isRef h rfl
  · exact vx_isRef h rfl
/-- the same frame, seen from here: as if the method were called anew in this heap -/
theorem vx_rebase {T : State} (X : Stand p l e R s m args below meth c T locs cells slots) {R' : Room} (hf : R'.frames ≤ R.frames) (hl : R'.locals ≤ R.locals) (hc : cells + R'.cells ≤ R.cells) (hs : slots + R'.slots ≤ R.slots) :
    Stand p l e R' ((T.setVm s.vm).setFrames (.invoking m args :: below)) m args below meth c T [] 0 0 := by
  have htop : (T.setVm s.vm).topJava?.isSome := X.here.top
  have hF : ((T.setVm s.vm).setFrames (.invoking m args :: below)).frames = .invoking m args :: below := State.frames_setFrames _ (State.cur_lt_of_top htop)
  obtain ⟨g₀, hg0⟩ := Option.isSome_iff_exists.mp htop
  obtain ⟨r, hr⟩ := State.topJava?_eq_some.mp hg0
  have hl9 : e.platform.stackLimits (T.setVm s.vm).me = e.platform.stackLimits s.me := X.limits
  have hb9 : (T.setVm s.vm).me.stackBytes = s.me.stackBytes := X.bytes
  refine ⟨X.admits, X.cas, X.clock, hF, ?_, X.hears, X.method, X.code, X.here, X.tail, X.warmed, ?_, ?_, ?_⟩
  · have h := X.room
    have hU : ((T.setVm s.vm).setFrames (.invoking m args :: below)).localsInUse = s.localsInUse := by
      rw [State.localsInUse_invoking hF (meth := meth) (c := c) X.method X.code, State.localsInUse_invoking X.frames X.method X.code]
    simp only [State.hasRoom, Bool.and_eq_true, decide_eq_true_eq] at h ⊢
    obtain ⟨⟨⟨⟨h1, h2, h3, h4, h5, h6⟩, h7⟩, h8⟩, h9⟩ := h
    rw [X.frames, List.length_cons] at h2 h3
    have q1 := X.heapSize
    have q2 := X.used
    simp only [hF, hU, List.length_cons, State.stackLimits_setFrames, State.stackBytes_setFrames, hl9, hb9]
    refine ⟨⟨⟨⟨by omega, by omega, by omega, by omega, by omega, h6⟩, ?_⟩, ?_⟩, X.book⟩
    · show T.heap.size + R'.cells ≤ e.platform.maxCells
      omega
    · show T.slotsUsed + R'.slots ≤ e.platform.maxSlots
      omega
  · rw [State.stackLimits_setFrames]; rfl
  · rw [State.stackBytes_setFrames]; rfl
  · refine ⟨?_, Nat.le_refl _, Nat.le_refl _, ?_, ?_, fun a c9 h9 => ⟨c9, h9, rfl, rfl, fun _ _ => rfl⟩⟩
    · obtain ⟨t, ht, -⟩ := State.frames_cons hr
      show T.setVm s.vm = { ((T.setVm s.vm).setFrames (.invoking m args :: below)).setFrames (T.setVm s.vm).frames with heap := T.heap, slotsUsed := T.slotsUsed }
      rw [State.setFrames_setFrames, State.setFrames_self ht]
      rfl
    · show T.slotsUsed = T.slotsUsed + ((T.heap.toList.drop T.heap.size).map (·.slots.size)).sum
      rw [List.drop_eq_nil_of_le (Nat.le_of_eq Array.length_toList)]
      rfl
    · show ((T.heap.toList.drop T.heap.size).map (·.slots.size)).sum ≤ 0
      rw [List.drop_eq_nil_of_le (Nat.le_of_eq Array.length_toList)]
      exact Nat.le_refl _
/-- 'throw new E()': new; dup; invokespecial; athrow -/
theorem vx_throw0 {cc : ByteArray} {pc : Nat} (hexec : p.tables.exec = Jvm.exec) (hb : c.code = cc) (hl : l.stackTraces = false) {own cls : String} {names : List String} {ik ic mc ms : Nat} {A : Nat → Prop}
    (hown : s.vm.findClass own = some m.cls) (hcls : Bundle.fit cls = true) (hnames : ∀ n ∈ names, Bundle.fit n = true)
    (hk : (Cond.classLink own ik cls).before args s = true) (hini : (Cond.initialized cls).before args s = true) (hat : ∀ w ∈ vx_at0 own ic cls names, w.before args s = true)
    (hgood : ∀ w ∈ Cond.classLink own ik cls :: Cond.initialized cls :: vx_at0 own ic cls names, vx_ot w = true)
    (hU : vx_Zq Bundle.tN "UNASSIGNED_STACK" Bundle.steD A s s.heap) (hN : vx_Zq Bundle.tN "SUPPRESSED_SENTINEL" Bundle.listD A s s.heap) (hS : va_S A s.heap H locs) (hsize : ls.size = c.maxLocals)
    (d0 : decode cc pc = .ok (.new ik, 3)) (d3 : decode cc (pc + 3) = .ok (.dup, 1)) (d4 : decode cc (pc + 4) = .ok (.invokespecial ic, 3)) (d7 : decode cc (pc + 7) = .ok (.athrow, 1))
    (hout : ∀ x ∈ c.exceptionTable.toList, covers x (pc + 7) = false)
    (hRframes : names.length + 3 < R.frames) (hRlocals : (rest.map fun v => v.category).sum + (13 * (names.length + 1) + 42) ≤ R.locals) (hRcells : cells + 1 ≤ R.cells) (hRslots : slots + 6 ≤ R.slots) (hlocks : meth.locks = false)
    (hx : ∀ t : State, s.vm.Alike t.vm → H.size ≤ t.heap.size → (∀ q : Nat, q < H.size → t.heap[q]? = H[q]?) → XC cls s t)
    (hf : ∀ z ∈ locs, free z.base) (hc : cells + 1 ≤ mc) (hs : slots + 6 ≤ ms) :
    W p l e R s m args below meth c H locs cells slots (vx_MQ below Qc XC args s mc ms free) (F0 m pc ls rest) := by
  intro T hT X
  have htr : e.platform.stackTraces = false := (show e.platform.stackTraces = l.stackTraces by rw [X.admits.platform]).trans hl
  have Y := vx_rebase X (R' := { frames := R.frames, locals := R.locals, cells := 1, slots := 6 }) (Nat.le_refl _) (Nat.le_refl _) hRcells hRslots
  obtain ⟨s', hA⟩ : ∃ z, z = (T.setVm s.vm).setFrames (.invoking m args :: below) := ⟨_, rfl⟩
  rw [← hA] at Y
  have hvm : s'.vm = s.vm := by rw [hA]; rfl
  have hhp : s'.heap = H := by rw [hA]; exact hT
  have hW0 : s.WarmedH s'.vm := by rw [hvm]; exact State.WarmedH.refl s
  have hat' : ∀ w ∈ vx_at0 own ic cls names, w.before args s' = true := fun w hw => vx_ot_at hW0 hvm.symm (hgood w (List.mem_cons_of_mem _ (List.mem_cons_of_mem _ hw))) (hat w hw)
  have hk' : (Cond.classLink own ik cls).before args s' = true := vx_ot_at hW0 hvm.symm (hgood _ List.mem_cons_self) hk
  have hini' : (Cond.initialized cls).before args s' = true := vx_ot_at hW0 hvm.symm (hgood _ (List.mem_cons_of_mem _ List.mem_cons_self)) hini
  have hU' : vx_Zq Bundle.tN "UNASSIGNED_STACK" Bundle.steD A s' s'.heap := by rw [hhp]; exact vx_Zq.moved hW0.alike (hU.kept hS.2.1)
  have hN' : vx_Zq Bundle.tN "SUPPRESSED_SENTINEL" Bundle.listD A s' s'.heap := by rw [hhp]; exact vx_Zq.moved hW0.alike (hN.kept hS.2.1)
  have h : ∀ w ∈ Bundle.ownAtoms0 own ic cls names, w.before args s' = true := vx_own hat' (vx_isRefq hU'.1) (vx_isRefq hN'.1) hU'.2.word hN'.2.word
  have hown' : s'.vm.findClass own = some m.cls := by rw [hvm]; exact hown
  have hins : (Cond.instantiable cls 6).before args s' = true := h _ (by simp [Bundle.ownAtoms0])
  obtain ⟨vm₁, cX, kX, hfX, hkX, -, -, X₁, st1⟩ := Y.newCold hexec (own := own) (C := cls) (index := ik) (n := 6) hown' hk' hins hini'
    (g := F0 m pc ls rest) rfl (by rw [hb]; exact d0) (Nat.le_refl _) (Nat.le_refl _)
  generalize hT1 : (T.setVm vm₁).pushCell { cls := cX, slots := kX.instanceTypes.map defaultValue, vm := .none } = T1 at X₁ st1
  have hcat : (Value.ref T.heap.size).category = 1 := rfl
  have hcellA : T1.heap[T.heap.size]? = some (freshCell cX kX) := by rw [← hT1]; exact State.heap_pushCell_size _ _
  have d3' : decode c.code (pc + 3) = .ok (.dup, 1) := by rw [hb]; exact d3
  obtain ⟨U, hsteps, hrun, hend, hW, hsame, ce, hce, hO⟩ := X₁.ctorThrow0 hexec htr (own := own) (cls := cls) (names := names) (ic := ic) hown' hcls hnames h (fun x hx => nomatch hx) hfX hkX hcellA (by rw [hhp, hT]; exact Nat.le_refl _)
    (g := { method := m, pc := pc + 4, locals := ls, stack := .ref T.heap.size :: .ref T.heap.size :: rest, locked := none }) rfl hsize rfl rfl (rest := rest) rfl
    (by rw [hb]; exact d4) (by rw [hb]; exact d7) hout hRframes (by simp only [List.map_cons, List.sum_cons, hcat]; omega) hlocks
  obtain ⟨f1, f2⟩ := vx_frame hsame
  rw [hhp] at f1 f2
  have hWs : s.WarmedH U.vm := State.WarmedH.trans hW0 hW
  have hcl : s.vm.findClass cls = some ce.cls := by
    have h9 := hO.cls
    rw [hvm] at h9
    exact h9
  have hall : s.sameButNew ({ U with vm := s.vm } : State) locs mc ms := by
    subst hA
    obtain ⟨e1, e2⟩ := hsame
    rw [State.setFrames_setFrames] at e1
    have h2 : (T.setVm s.vm).sameButNew ({ U with vm := s.vm } : State) [] (0 + 1) (0 + 6) := ⟨e1, e2⟩
    have h3 := X.same.trans h2
    rw [List.append_nil] at h3
    exact h3.mono hc hs
  refine ⟨U, ?_, .threw T.heap.size, hrun, hend, Or.inr ⟨T.heap.size, rfl, cls, ce, locs, hx U hWs.alike f1 (fun q hq => f2 q hq (fun z hz => nomatch hz)), hce, hO.vm, hcl, hWs, hall, hf⟩⟩
  refine st1 _ ?_
  show Steps p.tables e below (T1.setTop { method := m, pc := pc + 3, locals := ls, stack := .ref T.heap.size :: rest, locked := none }) _
  jvm_step X₁.here [X₁.here.top, hexec, d3', Value.category]
  exact hsteps
/-- 'throw new E("text")': new; dup; ldc; invokespecial; athrow -/
theorem vx_throwS {cc : ByteArray} {pc : Nat} (hexec : p.tables.exec = Jvm.exec) (hb : c.code = cc) (hl : l.stackTraces = false) {own cls text : String} {names : List String} {ik is ic mc ms sa : Nat} {A : Nat → Prop}
    (hown : s.vm.findClass own = some m.cls) (hcls : Bundle.fit cls = true) (hnames : ∀ n ∈ names, Bundle.fit n = true)
    (hk : (Cond.classLink own ik cls).before args s = true) (hini : (Cond.initialized cls).before args s = true) (hstr : vk_R own is text sa s) (hat : ∀ w ∈ vx_atS own ic cls names, w.before args s = true)
    (hgood : ∀ w ∈ Cond.classLink own ik cls :: Cond.initialized cls :: vx_atS own ic cls names, vx_ot w = true)
    (hU : vx_Zq Bundle.tN "UNASSIGNED_STACK" Bundle.steD A s s.heap) (hN : vx_Zq Bundle.tN "SUPPRESSED_SENTINEL" Bundle.listD A s s.heap) (hS : va_S A s.heap H locs) (hsize : ls.size = c.maxLocals)
    (d0 : decode cc pc = .ok (.new ik, 3)) (d3 : decode cc (pc + 3) = .ok (.dup, 1)) (d4 : decode cc (pc + 4) = .ok (.ldc is, 2)) (d6 : decode cc (pc + 6) = .ok (.invokespecial ic, 3)) (d9 : decode cc (pc + 9) = .ok (.athrow, 1))
    (hout : ∀ x ∈ c.exceptionTable.toList, covers x (pc + 9) = false)
    (hRframes : names.length + 3 < R.frames) (hRlocals : (rest.map fun v => v.category).sum + (13 * (names.length + 1) + 43) ≤ R.locals) (hRcells : cells + 1 ≤ R.cells) (hRslots : slots + 6 ≤ R.slots) (hlocks : meth.locks = false)
    (hx : ∀ t : State, s.vm.Alike t.vm → H.size ≤ t.heap.size → (∀ q : Nat, q < H.size → t.heap[q]? = H[q]?) → XC cls s t)
    (hf : ∀ z ∈ locs, free z.base) (hc : cells + 1 ≤ mc) (hs : slots + 6 ≤ ms) :
    W p l e R s m args below meth c H locs cells slots (vx_MQ below Qc XC args s mc ms free) (F0 m pc ls rest) := by
  intro T hT X
  have htr : e.platform.stackTraces = false := (show e.platform.stackTraces = l.stackTraces by rw [X.admits.platform]).trans hl
  have Y := vx_rebase X (R' := { frames := R.frames, locals := R.locals, cells := 1, slots := 6 }) (Nat.le_refl _) (Nat.le_refl _) hRcells hRslots
  obtain ⟨s', hA⟩ : ∃ z, z = (T.setVm s.vm).setFrames (.invoking m args :: below) := ⟨_, rfl⟩
  rw [← hA] at Y
  have hvm : s'.vm = s.vm := by rw [hA]; rfl
  have hhp : s'.heap = H := by rw [hA]; exact hT
  have hW0 : s.WarmedH s'.vm := by rw [hvm]; exact State.WarmedH.refl s
  have hat' : ∀ w ∈ vx_atS own ic cls names, w.before args s' = true := fun w hw => vx_ot_at hW0 hvm.symm (hgood w (List.mem_cons_of_mem _ (List.mem_cons_of_mem _ hw))) (hat w hw)
  have hk' : (Cond.classLink own ik cls).before args s' = true := vx_ot_at hW0 hvm.symm (hgood _ List.mem_cons_self) hk
  have hini' : (Cond.initialized cls).before args s' = true := vx_ot_at hW0 hvm.symm (hgood _ (List.mem_cons_of_mem _ List.mem_cons_self)) hini
  have hU' : vx_Zq Bundle.tN "UNASSIGNED_STACK" Bundle.steD A s' s'.heap := by rw [hhp]; exact vx_Zq.moved hW0.alike (hU.kept hS.2.1)
  have hN' : vx_Zq Bundle.tN "SUPPRESSED_SENTINEL" Bundle.listD A s' s'.heap := by rw [hhp]; exact vx_Zq.moved hW0.alike (hN.kept hS.2.1)
  have h : ∀ w ∈ Bundle.ownAtoms own ic cls names, w.before args s' = true := vx_own hat' (vx_isRefq hU'.1) (vx_isRefq hN'.1) hU'.2.word hN'.2.word
  have hown' : s'.vm.findClass own = some m.cls := by rw [hvm]; exact hown
  have hins : (Cond.instantiable cls 6).before args s' = true := h _ (by simp [Bundle.ownAtoms])
  obtain ⟨vm₁, cX, kX, hfX, hkX, -, -, X₁, st1⟩ := Y.newCold hexec (own := own) (C := cls) (index := ik) (n := 6) hown' hk' hins hini'
    (g := F0 m pc ls rest) rfl (by rw [hb]; exact d0) (Nat.le_refl _) (Nat.le_refl _)
  generalize hT1 : (T.setVm vm₁).pushCell { cls := cX, slots := kX.instanceTypes.map defaultValue, vm := .none } = T1 at X₁ st1
  have hcat : (Value.ref T.heap.size).category = 1 := rfl
  have hcellA : T1.heap[T.heap.size]? = some (freshCell cX kX) := by rw [← hT1]; exact State.heap_pushCell_size _ _
  have d3' : decode c.code (pc + 3) = .ok (.dup, 1) := by rw [hb]; exact d3
  have d4' : decode c.code (pc + 4) = .ok (.ldc is, 2) := by rw [hb]; exact d4
  have hstr' : vk_R own is text sa s' := vk_R.warm hW0 hstr
  obtain ⟨U, hsteps, hrun, hend, hW, hsame, ce, hce, hO⟩ := X₁.ctorThrowS hexec htr (own := own) (cls := cls) (names := names) (ic := ic) hown' hcls hnames h (fun x hx => nomatch hx) hfX hkX hcellA (by rw [hhp, hT]; exact Nat.le_refl _) (msg := .ref sa) rfl
    (g := { method := m, pc := pc + 6, locals := ls, stack := .ref sa :: .ref T.heap.size :: .ref T.heap.size :: rest, locked := none }) rfl hsize rfl rfl (rest := rest) rfl
    (by rw [hb]; exact d6) (by rw [hb]; exact d9) hout hRframes (by simp only [List.map_cons, List.sum_cons, hcat]; omega) hlocks
  obtain ⟨f1, f2⟩ := vx_frame hsame
  rw [hhp] at f1 f2
  have hWs : s.WarmedH U.vm := State.WarmedH.trans hW0 hW
  have hcl : s.vm.findClass cls = some ce.cls := by
    have h9 := hO.cls
    rw [hvm] at h9
    exact h9
  have hall : s.sameButNew ({ U with vm := s.vm } : State) locs mc ms := by
    subst hA
    obtain ⟨e1, e2⟩ := hsame
    rw [State.setFrames_setFrames] at e1
    have h2 : (T.setVm s.vm).sameButNew ({ U with vm := s.vm } : State) [] (0 + 1) (0 + 6) := ⟨e1, e2⟩
    have h3 := X.same.trans h2
    rw [List.append_nil] at h3
    exact h3.mono hc hs
  refine ⟨U, ?_, .threw T.heap.size, hrun, hend, Or.inr ⟨T.heap.size, rfl, cls, ce, locs, hx U hWs.alike f1 (fun q hq => f2 q hq (fun z hz => nomatch hz)), hce, hO.vm, hcl, hWs, hall, hf⟩⟩
  refine st1 _ ?_
  show Steps p.tables e below (T1.setTop { method := m, pc := pc + 3, locals := ls, stack := .ref T.heap.size :: rest, locked := none }) _
  jvm_step X₁.here [X₁.here.top, hexec, d3', Value.category]
  exact X₁.ldcString hexec (own := own) (text := text) (index := is) (a := sa) hown' hstr'.1 hstr'.2
    (g := { method := m, pc := pc + 4, locals := ls, stack := .ref T.heap.size :: .ref T.heap.size :: rest, locked := none }) rfl d4' _ hsteps
/-- 'throw new E("text")', the text by a wide index -/
theorem vx_throwSW {cc : ByteArray} {pc : Nat} (hexec : p.tables.exec = Jvm.exec) (hb : c.code = cc) (hl : l.stackTraces = false) {own cls text : String} {names : List String} {ik is ic mc ms sa : Nat} {A : Nat → Prop}
    (hown : s.vm.findClass own = some m.cls) (hcls : Bundle.fit cls = true) (hnames : ∀ n ∈ names, Bundle.fit n = true)
    (hk : (Cond.classLink own ik cls).before args s = true) (hini : (Cond.initialized cls).before args s = true) (hstr : vk_R own is text sa s) (hat : ∀ w ∈ vx_atS own ic cls names, w.before args s = true)
    (hgood : ∀ w ∈ Cond.classLink own ik cls :: Cond.initialized cls :: vx_atS own ic cls names, vx_ot w = true)
    (hU : vx_Zq Bundle.tN "UNASSIGNED_STACK" Bundle.steD A s s.heap) (hN : vx_Zq Bundle.tN "SUPPRESSED_SENTINEL" Bundle.listD A s s.heap) (hS : va_S A s.heap H locs) (hsize : ls.size = c.maxLocals)
    (d0 : decode cc pc = .ok (.new ik, 3)) (d3 : decode cc (pc + 3) = .ok (.dup, 1)) (d4 : decode cc (pc + 4) = .ok (.ldc_w is, 3)) (d7 : decode cc (pc + 7) = .ok (.invokespecial ic, 3)) (d10 : decode cc (pc + 10) = .ok (.athrow, 1))
    (hout : ∀ x ∈ c.exceptionTable.toList, covers x (pc + 10) = false)
    (hRframes : names.length + 3 < R.frames) (hRlocals : (rest.map fun v => v.category).sum + (13 * (names.length + 1) + 43) ≤ R.locals) (hRcells : cells + 1 ≤ R.cells) (hRslots : slots + 6 ≤ R.slots) (hlocks : meth.locks = false)
    (hx : ∀ t : State, s.vm.Alike t.vm → H.size ≤ t.heap.size → (∀ q : Nat, q < H.size → t.heap[q]? = H[q]?) → XC cls s t)
    (hf : ∀ z ∈ locs, free z.base) (hc : cells + 1 ≤ mc) (hs : slots + 6 ≤ ms) :
    W p l e R s m args below meth c H locs cells slots (vx_MQ below Qc XC args s mc ms free) (F0 m pc ls rest) := by
  intro T hT X
  have htr : e.platform.stackTraces = false := (show e.platform.stackTraces = l.stackTraces by rw [X.admits.platform]).trans hl
  have Y := vx_rebase X (R' := { frames := R.frames, locals := R.locals, cells := 1, slots := 6 }) (Nat.le_refl _) (Nat.le_refl _) hRcells hRslots
  obtain ⟨s', hA⟩ : ∃ z, z = (T.setVm s.vm).setFrames (.invoking m args :: below) := ⟨_, rfl⟩
  rw [← hA] at Y
  have hvm : s'.vm = s.vm := by rw [hA]; rfl
  have hhp : s'.heap = H := by rw [hA]; exact hT
  have hW0 : s.WarmedH s'.vm := by rw [hvm]; exact State.WarmedH.refl s
  have hat' : ∀ w ∈ vx_atS own ic cls names, w.before args s' = true := fun w hw => vx_ot_at hW0 hvm.symm (hgood w (List.mem_cons_of_mem _ (List.mem_cons_of_mem _ hw))) (hat w hw)
  have hk' : (Cond.classLink own ik cls).before args s' = true := vx_ot_at hW0 hvm.symm (hgood _ List.mem_cons_self) hk
  have hini' : (Cond.initialized cls).before args s' = true := vx_ot_at hW0 hvm.symm (hgood _ (List.mem_cons_of_mem _ List.mem_cons_self)) hini
  have hU' : vx_Zq Bundle.tN "UNASSIGNED_STACK" Bundle.steD A s' s'.heap := by rw [hhp]; exact vx_Zq.moved hW0.alike (hU.kept hS.2.1)
  have hN' : vx_Zq Bundle.tN "SUPPRESSED_SENTINEL" Bundle.listD A s' s'.heap := by rw [hhp]; exact vx_Zq.moved hW0.alike (hN.kept hS.2.1)
  have h : ∀ w ∈ Bundle.ownAtoms own ic cls names, w.before args s' = true := vx_own hat' (vx_isRefq hU'.1) (vx_isRefq hN'.1) hU'.2.word hN'.2.word
  have hown' : s'.vm.findClass own = some m.cls := by rw [hvm]; exact hown
  have hins : (Cond.instantiable cls 6).before args s' = true := h _ (by simp [Bundle.ownAtoms])
  obtain ⟨vm₁, cX, kX, hfX, hkX, -, -, X₁, st1⟩ := Y.newCold hexec (own := own) (C := cls) (index := ik) (n := 6) hown' hk' hins hini'
    (g := F0 m pc ls rest) rfl (by rw [hb]; exact d0) (Nat.le_refl _) (Nat.le_refl _)
  generalize hT1 : (T.setVm vm₁).pushCell { cls := cX, slots := kX.instanceTypes.map defaultValue, vm := .none } = T1 at X₁ st1
  have hcat : (Value.ref T.heap.size).category = 1 := rfl
  have hcellA : T1.heap[T.heap.size]? = some (freshCell cX kX) := by rw [← hT1]; exact State.heap_pushCell_size _ _
  have d3' : decode c.code (pc + 3) = .ok (.dup, 1) := by rw [hb]; exact d3
  have d4' : decode c.code (pc + 4) = .ok (.ldc_w is, 3) := by rw [hb]; exact d4
  have hstr' : vk_R own is text sa s' := vk_R.warm hW0 hstr
  obtain ⟨U, hsteps, hrun, hend, hW, hsame, ce, hce, hO⟩ := X₁.ctorThrowS hexec htr (own := own) (cls := cls) (names := names) (ic := ic) hown' hcls hnames h (fun x hx => nomatch hx) hfX hkX hcellA (by rw [hhp, hT]; exact Nat.le_refl _) (msg := .ref sa) rfl
    (g := { method := m, pc := pc + 7, locals := ls, stack := .ref sa :: .ref T.heap.size :: .ref T.heap.size :: rest, locked := none }) rfl hsize rfl rfl (rest := rest) rfl
    (by rw [hb]; exact d7) (by rw [hb]; exact d10) hout hRframes (by simp only [List.map_cons, List.sum_cons, hcat]; omega) hlocks
  obtain ⟨f1, f2⟩ := vx_frame hsame
  rw [hhp] at f1 f2
  have hWs : s.WarmedH U.vm := State.WarmedH.trans hW0 hW
  have hcl : s.vm.findClass cls = some ce.cls := by
    have h9 := hO.cls
    rw [hvm] at h9
    exact h9
  have hall : s.sameButNew ({ U with vm := s.vm } : State) locs mc ms := by
    subst hA
    obtain ⟨e1, e2⟩ := hsame
    rw [State.setFrames_setFrames] at e1
    have h2 : (T.setVm s.vm).sameButNew ({ U with vm := s.vm } : State) [] (0 + 1) (0 + 6) := ⟨e1, e2⟩
    have h3 := X.same.trans h2
    rw [List.append_nil] at h3
    exact h3.mono hc hs
  refine ⟨U, ?_, .threw T.heap.size, hrun, hend, Or.inr ⟨T.heap.size, rfl, cls, ce, locs, hx U hWs.alike f1 (fun q hq => f2 q hq (fun z hz => nomatch hz)), hce, hO.vm, hcl, hWs, hall, hf⟩⟩
  refine st1 _ ?_
  show Steps p.tables e below (T1.setTop { method := m, pc := pc + 3, locals := ls, stack := .ref T.heap.size :: rest, locked := none }) _
  jvm_step X₁.here [X₁.here.top, hexec, d3', Value.category]
  exact X₁.ldcStringW hexec (own := own) (text := text) (index := is) (a := sa) hown' hstr'.1 hstr'.2
    (g := { method := m, pc := pc + 4, locals := ls, stack := .ref T.heap.size :: .ref T.heap.size :: rest, locked := none }) rfl d4' _ hsteps
end Ends
section Bodies
variable {l : Launch}
theorem vx_ofW {y : MethodName} {ws ws' : List Cond} {rm : Room} {Pc : Array Value → State → Prop} {Qc : Array Value → State → Outcome → State → Prop} {XC : String → State → State → Prop} {mc ms : Nat} {free : Addr → Prop} {cc : ByteArray} {maxL : Nat} {ret : Option FieldType}
    (hy : plainName y.cls = true) (hw : ws = Cond.code y cc maxL ret :: ws')
    (body : ∀ p e s m args below meth c s₁, BodyLoose p l y (headSpec ws rm) cc maxL ret e s m args below meth c s₁ → c.maxLocals = maxL → (∀ x ∈ c.exceptionTable.toList, False) → Pc args s →
      W p l e (headSpec ws rm).room s m args below meth c s.heap [] 0 0 (vx_MQ below Qc XC args s mc ms free) (entryFrame m args maxL)) : vx_Met l y ws rm Pc Qc XC mc ms free := by
  refine MetFree.of_bodyS (code := cc) (maxLocals := maxL) (ret := ret) hy ?_ ?_
  · intro args s m h hn
    obtain ⟨meth, c, h1, h2, h3, h4, h5, h6, -, -⟩ := Cond.code_spec hn (atoms_spec (ws := ws) h _ (by rw [hw]; exact List.mem_cons_self))
    exact ⟨meth, c, h1, h2, h3, h4, h5, h6⟩
  · intro p e s m args below meth c s₁ B hml hP _
    have hh0 : s₁.heap = s.heap := by rw [B.state]; rfl
    have ht : ∀ x ∈ c.exceptionTable.toList, False := by
      obtain ⟨meth9, c9, h1, h2, -, -, -, -, h7, -⟩ := Cond.code_spec B.named (atoms_spec (ws := ws) B.pre _ (by rw [hw]; exact List.mem_cons_self))
      cases Option.some.inj (h1.symm.trans B.method)
      cases Option.some.inj (h2.symm.trans (Stand.of_body B).code)
      intro x hx
      rw [Array.isEmpty_iff.mp h7] at hx
      cases hx
    obtain ⟨t, a1, o, b1, b2, b3⟩ := body p e s m args below meth c s₁ B hml ht hP s₁ hh0 (Stand.of_body B)
    exact ⟨t, o, a1, b1, b2, b3⟩
/-- the table of a body with handlers -/
theorem vx_table {p : Program} {x y : MethodName} {S : Spec} {cc bytes : ByteArray} {maxL maxL' : Nat} {ret ret' : Option FieldType} {e : Env} {s s₁ : State} {m : MethodId} {args : Array Value} {below : List Frame} {meth : Method} {c : Code} {hh : List (Nat × Nat × Nat × Nat)}
    (B : BodyLoose p l y S cc maxL ret e s m args below meth c s₁) (h : (Cond.codeWith y bytes maxL' ret' hh).before args s = true) : c.exceptionTable.toList = tableOf hh := by
  obtain ⟨m9, meth9, c9, hn9, h1, h2, -, -, h6, -⟩ := Cond.codeWith_spec h
  cases Option.some.inj (hn9.symm.trans B.named)
  cases Option.some.inj (h1.symm.trans B.method)
  cases Option.some.inj (h2.symm.trans (Stand.of_body B).code)
  rw [← h6, table_eq]
end Bodies
end VXA
/-! ===== END ===== -/
/-! ===== BEGIN a static call of a method with an exception table ===== -/
section VXS
variable {p : Program} {l : Launch} {e : Env} {R : Room} {s : State} {m : MethodId} {args : Array Value} {below : List Frame} {meth : Method} {c : Code} {T : State} {H : Heap} {locs : List Loc} {cells slots : Nat}
abbrev vx_CSW (R : Room) (s : State) (args : Array Value) (own : String) (index : Nat) (y : MethodName) (bytes : ByteArray) (maxL : Nat) (ret : Option FieldType) (hh : List (Nat × Nat × Nat × Nat)) (ws : List Cond) (rm : Room) (mc ms n : Nat) : Prop :=
  (rm.cells = mc ∧ rm.slots = ms ∧ rm.frames + 1 ≤ R.frames ∧ 8 + (maxL + 11) + rm.locals ≤ R.locals ∧ (∀ w ∈ ws, ∀ (a' : Array Value) (U : State), s.WarmedH U.vm → w.before a' U = true) ∧ Cond.codeWith y bytes maxL ret hh ∈ ws) ∧
  (Cond.codeWith y bytes maxL ret hh).before args s = true ∧ (Cond.initialized y.cls).before args s = true ∧ (y.cls ≠ "java/lang/invoke/MethodHandle" ∧ y.cls ≠ "java/lang/invoke/VarHandle") ∧
  (∀ sig, parseMethodDescriptor y.desc = some sig → n = sig.parameters.length) ∧ (Cond.methodLink own index y).before args s = true ∧ (Cond.static y).before args s = true
theorem vx_cwSW {own : String} {index maxL mc ms : Nat} {y : MethodName} {bytes : ByteArray} {ret : Option FieldType} {hh : List (Nat × Nat × Nat × Nat)} {Ts ws ws' : List Cond} {rm : Room} (n : Nat) (ht : ∀ w ∈ Ts, w.before args s = true) (hT : GoodIn Ts (va_wsS own index y ws)) (hw : ws = Cond.codeWith y bytes maxL ret hh :: ws') (hrc : rm.cells = mc) (hrs : rm.slots = ms)
    (hd : y.cls ≠ "java/lang/invoke/MethodHandle" ∧ y.cls ≠ "java/lang/invoke/VarHandle" ∧ (parseMethodDescriptor y.desc).map (fun d => d.parameters.length) = some n) (hR : rm.frames + 1 ≤ R.frames ∧ 8 + (maxL + 11) + rm.locals ≤ R.locals) :
    vx_CSW R s args own index y bytes maxL ret hh ws rm mc ms n := by
  have ok : ∀ w ∈ va_wsS own index y ws, w.before args s = true := fun w h => ht w (hT w h).1
  have hG : GoodIn Ts ws := fun w h => hT w (by unfold va_wsS; exact List.mem_append_right _ h)
  have hc : Cond.codeWith y bytes maxL ret hh ∈ ws := by rw [hw]; exact List.mem_cons_self
  refine ⟨⟨hrc, hrs, hR.1, hR.2, pay_in ht hG, hc⟩, ht _ (hG _ hc).1, ok _ (by simp [va_wsS]), ⟨hd.1, hd.2.1⟩, fun sig h => ?_, ok _ (by simp [va_wsS]), ok _ (by simp [va_wsS])⟩
  have h2 := hd.2.2
  rw [h] at h2
  exact (Option.some.inj h2).symm
theorem vx_callSW (X : Stand p l e R s m args below meth c T locs cells slots) (hexec : p.tables.exec = Jvm.exec) {own : String} {index : Nat} {y : MethodName} {bytes : ByteArray} {maxL : Nat} {ret : Option FieldType} {hh : List (Nat × Nat × Nat × Nat)}
    (hown : s.vm.findClass own = some m.cls) (hlink : (Cond.methodLink own index y).before args s = true) (hstat : (Cond.static y).before args s = true) (hinit : (Cond.initialized y.cls).before args s = true)
    (hcode : (Cond.codeWith y bytes maxL ret hh).before args s = true) (hy : y.cls ≠ "java/lang/invoke/MethodHandle" ∧ y.cls ≠ "java/lang/invoke/VarHandle")
    {W9 : Nat} {Pre : Pt → Array Value → Prop} {Post : Pt → Array Value → Option Value → Pt → Prop} (hK : Back l R p e below s args y 3 W9 Pre Post)
    {g : JFrame} (hg : g.method = m) (hsize : g.locals.size = c.maxLocals) {argsL rest : List Value} (hlen : ∀ sig, parseMethodDescriptor y.desc = some sig → argsL.length = sig.parameters.length)
    (hstack : g.stack = argsL.reverse ++ rest) (hW : 2 * g.monitorRoom + (rest.map fun v => v.category).sum ≤ W9) (hdg : decode c.code g.pc = .ok (.invokestatic index, 3))
    (hpre : ∀ vm₁, s.WarmedH vm₁ → Pre ⟨T.setVm vm₁, locs, cells, slots⟩ argsL.toArray) :
    ∃ (v : Option Value) (vm₁ : Vm) (B : Pt), s.WarmedH vm₁ ∧ Stand p l e R s m args below meth c B.U B.locs B.cells B.slots ∧ Post ⟨T.setVm vm₁, locs, cells, slots⟩ argsL.toArray v B ∧
      ∀ target, Steps p.tables e below (B.U.setTop { g with pc := g.pc + 3, stack := v.toList ++ rest }) target → Steps p.tables e below (T.setTop g) target := by
  obtain ⟨mk, methM, cM, hnamed, hmethM, -, -, -, -, -, -, hsigM⟩ := Cond.codeWith_spec hcode
  have hstatic : methM.isStatic = true := Cond.static_spec hnamed hmethM hstat
  obtain ⟨kP, hkP, -⟩ := className_of_methodNamed hnamed
  have hinitP : kP.init = .initialized := Cond.initialized_spec (findClass_of_methodNamed hnamed) hkP hinit
  obtain ⟨vm₁, X₁, hstep₁⟩ := X.invokestatic hexec hown hlink hnamed hmethM hstatic hkP hinitP hy (g := g) hg (argsL := argsL) (rest := rest) (hlen _ hsigM) hstack hdg
  obtain ⟨v, B, X', hpost, hsteps⟩ := hK m meth c ⟨T.setVm vm₁, locs, cells, slots⟩ { g with stack := rest } (.invokestatic index) mk argsL.toArray X₁ hg hsize hdg hW (X₁.named hnamed) (hpre vm₁ X₁.warmed)
  exact ⟨v, vm₁, B, X₁.warmed, X', hpost, fun target h => hstep₁ _ fun acts => by rw [doInvoke_state]; exact hsteps.trans h⟩
theorem vx_runSW {y : MethodName} {bytes cc : ByteArray} {maxL nL mc ms n index : Nat} {ret : Option FieldType} {hh : List (Nat × Nat × Nat × Nat)} {ws : List Cond} {rm : Room} {Pc : Array Value → State → Prop} {Qc : Array Value → State → Outcome → State → Prop} {free : Addr → Prop} {Ts : List Cond} {own : String} {As rest : List Value} {g : JFrame}
    (S : CallFix p m c cc nL s args Ts own) (hM : Met l y ws rm Pc Qc mc ms free) (cw : vx_CSW R s args own index y bytes maxL ret hh ws rm mc ms n) (hp : PreS s H Pc As)
    (hg : g.method = m) (hn : As.length = n) (hsize : g.locals.size = nL) (hstack : g.stack = As.reverse ++ rest) (hW : 2 * g.monitorRoom + (rest.map fun v => v.category).sum ≤ 8) (hdg : decode cc g.pc = .ok (.invokestatic index, 3)) (hf : cells + mc ≤ R.cells ∧ slots + ms ≤ R.slots) :
    va_Run p l e R s m args below meth c H locs cells slots mc ms g rest (Qc As.toArray) (free) := by
  obtain ⟨⟨hrc, hrs, hfr, hlo, hws, hcw⟩, hcode, hini, hy, hlen, hl, hstt⟩ := cw
  have hK : Back l R p e below s args y 3 8 (PreOf R mc ms Pc) (PostOf Qc mc ms free) := va_backW (hh := hh) (bytes := bytes) (maxL := maxL) (ret := ret) hM hp.1 hrc hrs hfr hlo hws hcw (fun a' U hW => word_at hW (Or.inl (by first | rfl | simp [Cond.onTables, Cond.keeps, Cond.steady])) hini)
  obtain ⟨hx, hb, hml, ho, -⟩ := S
  intro T hT X
  obtain ⟨v, vm₁, ⟨U', l2, c2, s2⟩, hW₁, X', ⟨g', mk, t, L, e1, e2, hq, h1, hL, h2, h3⟩, st⟩ := vx_callSW X hx (hh := hh) (bytes := bytes) (maxL := maxL) (ret := ret) ho hl hstt hini hcode hy hK hg (hsize.trans hml.symm) (argsL := As) (rest := rest) (fun sig h => hn.trans (hlen sig h)) hstack hW (by rw [hb]; exact hdg)
    (fun vm₁ hW₁ => ⟨hf.1, hf.2, hp.2 (T.setVm vm₁) hT hW₁⟩)
  dsimp only [Pt.U, Pt.locs, Pt.cells, Pt.slots] at X' e1 e2 h1 h2 h3 st
  subst h1; subst h2; subst h3
  exact ⟨v, (T.setVm vm₁).calling g' mk As.toArray, t, U', L, hT, X', hL, e1, e2, hq, st⟩
/-- not caught here, past rows that name other classes: it goes on to the caller -/
theorem vx_outP {p : Program} {l : Launch} {e : Env} {R : Room} {s : State} {m : MethodId} {args : Array Value} {below : List Frame} {meth : Method} {c : Code} {H : Heap} {locs : List Loc} {cells slots : Nat} {free : Addr → Prop} {ls : Array Slot} {rest : List Value} {Qc : Array Value → State → Outcome → State → Prop} {XC : String → State → State → Prop}
    {pc : Nat} {own E : String} {ce : Cell} {q : Addr} {mc ms : Nat} (hown : s.vm.findClass own = some m.cls) (hlocks : meth.locks = false)
    (hpass : ∀ z ∈ c.exceptionTable.toList, covers z pc = false ∨ (z.catchType ≠ 0 ∧ ∃ nm : String, (Cond.classLink own z.catchType nm).before args s = true ∧ va_Nc E nm s)) (hcell : H[q]? = some ce) (hv : ce.vm = .none) (hcl : s.vm.findClass E = some ce.cls)
    (hx : ∀ t : State, t.heap = H → s.vm.Alike t.vm → XC E s t) (hf : ∀ z ∈ locs, free z.base) (hc : cells ≤ mc) (hs : slots ≤ ms) :
    vx_W p l e R s m args below meth c H locs cells slots (vx_MQ below Qc XC args s mc ms free) (F0 m pc ls rest) q := by
  intro T hT X
  have hpl : e.platform.magicAccessors = ({} : Platform).magicAccessors := by rw [X.admits.platform]
  obtain ⟨vm', hW', X', st⟩ := X.outThrough hlocks q (g := F0 m pc ls rest) rfl rfl rfl (cell := ce) (by rw [hT]; exact hcell) (by rw [hv]; rfl)
    (by obtain ⟨k9, h9, -⟩ := Vm.findClass_spec hcl; exact ⟨k9, h9⟩) (fun z hz => by
      rcases hpass z hz with h | ⟨hz0, nm, hl1, hn1⟩
      · exact Or.inl h
      · obtain ⟨c6, hc6, hcl6⟩ := Cond.classLink_spec hown hl1 e.platform hpl
        obtain ⟨a8, b8, h1, h2, h3⟩ := hn1
        cases Option.some.inj (h1.symm.trans hcl)
        cases Option.some.inj (h2.symm.trans hc6)
        exact Or.inr ⟨hz0, _, hcl6, h3⟩)
  obtain ⟨g₀, hfr⟩ := X'.frames_eq
  have hcell9 : ((T.setVm vm').setFrames (.throwing q :: below)).heap[q]? = some ce := by
    show T.heap[q]? = some ce
    rw [hT]; exact hcell
  have hend : Ended ((T.setVm vm').setFrames (.throwing q :: below)) below (.threw q) := State.frames_setFrames _ (State.cur_lt_of_frames hfr)
  refine ⟨(T.setVm vm').setFrames (.throwing q :: below), ?_, .threw q, X'.here.running, hend, Or.inr ⟨q, rfl, E, ce, locs, hx _ hT (X'.ends _).1.alike, hcell9, hv, hcl, (X'.ends _).1, (X'.ends _).2.mono hc hs, hf⟩⟩
  rw [X.pushThrowing_eq]
  exact st
/-- a thing of a world lies in the heap -/
theorem vx_lt {D : va_G} {cl : List vw_C} {ws : va_W} {H1 : Heap} (h : va_P D cl ws H1) {k : Nat} {q : Nat × va_E} (hk : ws[k]? = some q) : q.1 < H1.size := (h k q hk).lt
end VXS
/-! ===== END ===== -/
/-! ===== BEGIN methods with a table of their own: called by a name, returning or throwing ===== -/
section VXH
/-! vx_backW, vx_callVX, vx_callSX, vx_callVW, vx_runVW, vx_runVX, vx_runSX, vx_ofWH follow the same proofs as their sisters above (Free/Laws.lean, Shelf42/LK1.lean); vx_outP calls Shelf42/NT130.lean (outThrough). -/
section
variable {l : Launch} {R : Room} {p : Program} {e : Env} {below : List Frame} {s : State} {sargs : Array Value} {y : MethodName} {len W9 : Nat}
theorem vx_backW {ws : List Cond} {rm : Room} {Pc : Array Value → State → Prop} {Qc : Array Value → State → Outcome → State → Prop} {XC : String → State → State → Prop} {mc ms : Nat} {free : Addr → Prop} {bytes : ByteArray} {maxL : Nat} {ret : Option FieldType} {hh : List (Nat × Nat × Nat × Nat)}
    (hM : vx_Met l y ws rm Pc Qc XC mc ms free) (hblind : FrameBlind Pc) (hrc : rm.cells = mc) (hrs : rm.slots = ms)
    (hframes : rm.frames + 1 ≤ R.frames) (hlocals : W9 + (maxL + 11) + rm.locals ≤ R.locals)
    (hws : ∀ w ∈ ws, ∀ a' U, s.WarmedH U.vm → w.before a' U = true) (hcode : Cond.codeWith y bytes maxL ret hh ∈ ws) (hinit : ∀ a' U, s.WarmedH U.vm → (Cond.initialized y.cls).before a' U = true) :
    vx_Back l R p e below s sargs y len W9 (PreOf R mc ms Pc) (PostOf Qc mc ms free) (vx_Post XC mc ms free) := by
  intro m meth c A g ig mk a X hg hsize hdg hW hn hp
  have h1 : (headSpec ws rm).pre.before a A.U = true := atoms_intro fun w hw => hws w hw _ _ X.warmed
  have h2 : (Cond.codeWith y bytes maxL ret hh).before a A.U = true := hws _ hcode _ _ X.warmed
  have h3 : (Cond.initialized y.cls).before a A.U = true := hinit _ _ X.warmed
  have h4 : A.cells + (headSpec ws rm).room.cells ≤ R.cells := by rw [show (headSpec ws rm).room.cells = mc from hrc]; exact hp.1
  have h5 : A.slots + (headSpec ws rm).room.slots ≤ R.slots := by rw [show (headSpec ws rm).room.slots = ms from hrs]; exact hp.2.1
  have hPc : Pc a (A.U.calling g mk a) := hblind _ _ _ _ hp.2.2
  obtain ⟨U, Ls, c0, s0⟩ := A
  dsimp only [Pt.U, Pt.locs, Pt.cells, Pt.slots] at h1 h2 h3 h4 h5 X hn hPc ⊢
  obtain ⟨m9, methY, cY, hn9, hmY, hcY, -, hlY, -⟩ := Cond.codeWith_spec h2
  cases Option.some.inj (hn9.symm.trans hn)
  obtain ⟨kY, hkY, -⟩ := className_of_methodNamed hn
  have hinitY : kY.init = .initialized := Cond.initialized_spec (findClass_of_methodNamed hn) hkY h3
  have h : At U g.method c below := by rw [hg]; exact X.here
  have hlocals9 : W9 + (maxL + 11) + (headSpec ws rm).room.locals ≤ R.locals := hlocals
  have happ : (headSpec ws rm).appliesLoose y e.platform (U.calling g mk a) = true :=
    Spec.appliesLoose_calling (g := g) h hdg hn hkY hinitY
      (X.room_calling (g := g) (R' := (headSpec ws rm).room) hsize hmY hcY hframes (by rw [hlY]; omega) h4 h5) h1
  obtain ⟨mid, hmid⟩ := h.above
  have hfr : (U.setTop g).frames = (.java g :: mid) ++ below := by rw [State.frames_setTop' g h.top, hmid]; rfl
  obtain ⟨o, s₂, hsteps, -, hend, hq⟩ := Steps.callFree hM p X.admits X.cas X.clock (acts := []) hfr happ hPc trivial
  have hq' : vx_Q Qc XC mc ms free a (U.calling g mk a) o s₂ := hq
  rw [State.frames_setTop' g h.top] at hend
  obtain ⟨g₀, hg0⟩ := Option.isSome_iff_exists.mp h.top
  obtain ⟨r, hr⟩ := State.topJava?_eq_some.mp hg0
  have hr' : (({ U with heap := s₂.heap, slotsUsed := s₂.slotsUsed } : State).setVm s₂.vm).frames = .java g₀ :: r := hr
  rcases hq' with ⟨hqc, L, hfe, hL⟩ | ⟨q, rfl, E, ce, L, hx, hce, hcv, hcl, hW₂, hsm, hL⟩
  · obtain ⟨⟨v, rfl⟩, hW₂, e2, q2, q3, q4, q5, q6⟩ := id hfe
    have e3 : s₂ = ({ (U.calling g mk a).setFrames s₂.frames with heap := s₂.heap, slotsUsed := s₂.slotsUsed } : State).setVm s₂.vm := by
      have : s₂ = ({ s₂ with vm := (U.calling g mk a).vm } : State).setVm s₂.vm := rfl
      rw [e2] at this
      exact this
    obtain ⟨c₂, i₂, len₂, hc₂, hd₂, hf₂⟩ := hend
    have hW' : U.WarmedH s₂.vm := hW₂
    have hcc : c₂ = c := by
      have h1 : s₂.code? g.method = U.code? g.method := by
        rw [State.code?_eq, State.code?_eq, hW'.alike.method?]
      exact Option.some.inj (hc₂.symm.trans (h1.trans h.code))
    subst hcc
    have hlen : len₂ = len := by rw [hdg] at hd₂; cases hd₂; rfl
    subst hlen
    have hs₂ : s₂ = (({ U with heap := s₂.heap, slotsUsed := s₂.slotsUsed } : State).setVm s₂.vm).setTop { g with pc := g.pc + len₂, stack := v.toList ++ g.stack } := by
      refine e3.trans ?_
      rw [hf₂, State.calling_eq h.top, State.setFrames_setFrames, State.setTop_of_frames _ hr', hr]
      rfl
    have hsame : U.sameButNew ({ U with heap := s₂.heap, slotsUsed := s₂.slotsUsed } : State) L mc ms := by
      refine ⟨?_, q2, q3, q4, q5, q6⟩
      obtain ⟨t, ht, -⟩ := State.frames_cons hr
      show ({ U with heap := s₂.heap, slotsUsed := s₂.slotsUsed } : State) = { U.setFrames U.frames with heap := s₂.heap, slotsUsed := s₂.slotsUsed }
      rw [State.setFrames_self ht]
    subst hg
    refine Or.inl ⟨v, ⟨(({ U with heap := s₂.heap, slotsUsed := s₂.slotsUsed } : State).setVm s₂.vm), Ls ++ L, c0 + mc, s0 + ms⟩,
      ⟨X.admits, X.cas, X.clock, X.frames, X.room, X.hears, X.method, X.code, (X.here.setHeapUsed s₂.heap s₂.slotsUsed).setVm hW'.alike, X.tail, State.WarmedH.trans X.warmed hW', X.limits, X.bytes, X.same.trans (hsame.setVm s.vm)⟩,
      ⟨g, mk, s₂, L, rfl, rfl, hqc, rfl, hL, rfl, rfl⟩, ?_⟩
    show Steps p.tables e below _ ((({ U with heap := s₂.heap, slotsUsed := s₂.slotsUsed } : State).setVm s₂.vm).setTop { g with pc := g.pc + len₂, stack := v.toList ++ g.stack })
    rw [← hs₂]
    exact hsteps
  · obtain ⟨e2, q2, q3, q4, q5, q6⟩ := id hsm
    have e3 : s₂ = ({ (U.calling g mk a).setFrames s₂.frames with heap := s₂.heap, slotsUsed := s₂.slotsUsed } : State).setVm s₂.vm := by
      have : s₂ = ({ s₂ with vm := (U.calling g mk a).vm } : State).setVm s₂.vm := rfl
      rw [e2] at this
      exact this
    have hf₂ : s₂.frames = .throwing q :: .java g :: U.frames.tail := hend
    have hW' : U.WarmedH s₂.vm := hW₂
    have hs₂ : s₂ = ((({ U with heap := s₂.heap, slotsUsed := s₂.slotsUsed } : State).setVm s₂.vm).setTop g).pushFrame (.throwing q) := by
      refine e3.trans ?_
      rw [hf₂, State.calling_eq h.top, State.setFrames_setFrames, State.pushFrame, State.frames_setTop _ hr', State.setTop_of_frames _ hr', State.setFrames_setFrames, hr]
      rfl
    have hsame : U.sameButNew ({ U with heap := s₂.heap, slotsUsed := s₂.slotsUsed } : State) L mc ms := by
      refine ⟨?_, q2, q3, q4, q5, q6⟩
      obtain ⟨t, ht, -⟩ := State.frames_cons hr
      show ({ U with heap := s₂.heap, slotsUsed := s₂.slotsUsed } : State) = { U.setFrames U.frames with heap := s₂.heap, slotsUsed := s₂.slotsUsed }
      rw [State.setFrames_self ht]
    subst hg
    refine Or.inr ⟨q, ⟨(({ U with heap := s₂.heap, slotsUsed := s₂.slotsUsed } : State).setVm s₂.vm), Ls ++ L, c0 + mc, s0 + ms⟩,
      ⟨X.admits, X.cas, X.clock, X.frames, X.room, X.hears, X.method, X.code, (X.here.setHeapUsed s₂.heap s₂.slotsUsed).setVm hW'.alike, X.tail, State.WarmedH.trans X.warmed hW', X.limits, X.bytes, X.same.trans (hsame.setVm s.vm)⟩,
      ⟨g, mk, s₂, L, E, ce, rfl, rfl, hx, hce, hcv, hcl, rfl, hL, rfl, rfl⟩, ?_⟩
    show Steps p.tables e below _ (((({ U with heap := s₂.heap, slotsUsed := s₂.slotsUsed } : State).setVm s₂.vm).setTop g).pushFrame (.throwing q))
    rw [← hs₂]
    exact hsteps
end
variable {p : Program} {l : Launch} {e : Env} {R : Room} {s : State} {m : MethodId} {args : Array Value} {below : List Frame} {meth : Method} {c : Code} {T : State} {H : Heap} {locs : List Loc} {cells slots : Nat}
theorem vx_callVX (X : Stand p l e R s m args below meth c T locs cells slots) (hexec : p.tables.exec = Jvm.exec) {own C : String} {index : Nat} {y : MethodName} {bytes : ByteArray} {maxL : Nat} {ret : Option FieldType} {hh : List (Nat × Nat × Nat × Nat)}
    (hown : s.vm.findClass own = some m.cls) (hlink : (Cond.methodLink own index y).before args s = true) (hinst : (Cond.instanceMethod y).before args s = true) (hsel : (Cond.selects C y y).before args s = true)
    (hcode : (Cond.codeWith y bytes maxL ret hh).before args s = true) (hy : y.cls ≠ "java/lang/invoke/MethodHandle" ∧ y.cls ≠ "java/lang/invoke/VarHandle")
    {W9 : Nat} {Pre : Pt → Array Value → Prop} {Post : Pt → Array Value → Option Value → Pt → Prop} {PostX : Pt → Array Value → Addr → Pt → Prop} (hK : vx_Back l R p e below s args y 3 W9 Pre Post PostX)
    {b : Addr} {cellB : Cell} (hcell : T.heap[b]? = some cellB) (hobj : cellB.vm.isStatics = false) (hcls : s.vm.findClass C = some cellB.cls)
    {g : JFrame} (hg : g.method = m) (hsize : g.locals.size = c.maxLocals) {argsL rest : List Value} (hlen : ∀ sig, parseMethodDescriptor y.desc = some sig → argsL.length = sig.parameters.length)
    (hstack : g.stack = argsL.reverse ++ .ref b :: rest) (hW : 2 * g.monitorRoom + (rest.map fun v => v.category).sum ≤ W9) (hdg : decode c.code g.pc = .ok (.invokevirtual index, 3))
    (hpre : ∀ vm₁, s.WarmedH vm₁ → Pre ⟨T.setVm vm₁, locs, cells, slots⟩ (Value.ref b :: argsL).toArray) :
    (∃ (v : Option Value) (vm₁ : Vm) (B : Pt), s.WarmedH vm₁ ∧ Stand p l e R s m args below meth c B.U B.locs B.cells B.slots ∧ Post ⟨T.setVm vm₁, locs, cells, slots⟩ (Value.ref b :: argsL).toArray v B ∧
      ∀ target, Steps p.tables e below (B.U.setTop { g with pc := g.pc + 3, stack := v.toList ++ rest }) target → Steps p.tables e below (T.setTop g) target) ∨
    (∃ (q : Addr) (vm₁ : Vm) (B : Pt), s.WarmedH vm₁ ∧ Stand p l e R s m args below meth c B.U B.locs B.cells B.slots ∧ PostX ⟨T.setVm vm₁, locs, cells, slots⟩ (Value.ref b :: argsL).toArray q B ∧
      Steps p.tables e below (T.setTop g) ((B.U.setTop { g with stack := rest }).pushFrame (.throwing q))) := by
  obtain ⟨mk, methM, hnamed, hmethM, hstM, habM⟩ := Cond.instanceMethod_spec hinst
  obtain ⟨m8, methM', cM, hn8, hmethM', -, -, -, -, -, -, hsigM⟩ := Cond.codeWith_spec hcode
  cases Option.some.inj (hn8.symm.trans hnamed)
  cases hmethM.symm.trans hmethM'
  obtain ⟨c2, r2, m2, q1, q2, q3, q4, kP, hkP, hkPi⟩ := Cond.selects_spec hsel
  cases hcls.symm.trans q1
  cases (State.methodFound?_of_named hnamed hy).symm.trans q2
  cases hnamed.symm.trans q3
  have hselP : selectMethod e.platform s.vm cellB.cls mk = .method mk := by rw [Launch.admits_selectMethod X.admits]; exact q4
  obtain ⟨vm₁, X₁, hstep₁⟩ := X.invokevirtual hexec hown hlink hnamed hmethM hstM hkP hkPi hy (a := b) (cell := cellB) hcell
    (fun z h => by rw [h] at hobj; cases hobj) hselP hmethM habM hkP hkPi (g := g) hg (argsL := argsL) (rest := rest) (hlen _ hsigM) hstack hdg
  rcases hK m meth c ⟨T.setVm vm₁, locs, cells, slots⟩ { g with stack := rest } (.invokevirtual index) mk (Value.ref b :: argsL).toArray X₁ hg hsize hdg hW (X₁.named hnamed) (hpre vm₁ X₁.warmed) with ⟨v, B, X', hpost, hsteps⟩ | ⟨q, B, X', hpost, hsteps⟩
  · exact Or.inl ⟨v, vm₁, B, X₁.warmed, X', hpost, fun target h => hstep₁ _ fun acts => by rw [doInvoke_state]; exact hsteps.trans h⟩
  · exact Or.inr ⟨q, vm₁, B, X₁.warmed, X', hpost, hstep₁ _ fun acts => by rw [doInvoke_state]; exact hsteps⟩
theorem vx_callSX (X : Stand p l e R s m args below meth c T locs cells slots) (hexec : p.tables.exec = Jvm.exec) {own : String} {index : Nat} {y : MethodName} {bytes : ByteArray} {maxL : Nat} {ret : Option FieldType} {hh : List (Nat × Nat × Nat × Nat)}
    (hown : s.vm.findClass own = some m.cls) (hlink : (Cond.methodLink own index y).before args s = true) (hstat : (Cond.static y).before args s = true) (hinit : (Cond.initialized y.cls).before args s = true)
    (hcode : (Cond.codeWith y bytes maxL ret hh).before args s = true) (hy : y.cls ≠ "java/lang/invoke/MethodHandle" ∧ y.cls ≠ "java/lang/invoke/VarHandle")
    {W9 : Nat} {Pre : Pt → Array Value → Prop} {Post : Pt → Array Value → Option Value → Pt → Prop} {PostX : Pt → Array Value → Addr → Pt → Prop} (hK : vx_Back l R p e below s args y 3 W9 Pre Post PostX)
    {g : JFrame} (hg : g.method = m) (hsize : g.locals.size = c.maxLocals) {argsL rest : List Value} (hlen : ∀ sig, parseMethodDescriptor y.desc = some sig → argsL.length = sig.parameters.length)
    (hstack : g.stack = argsL.reverse ++ rest) (hW : 2 * g.monitorRoom + (rest.map fun v => v.category).sum ≤ W9) (hdg : decode c.code g.pc = .ok (.invokestatic index, 3))
    (hpre : ∀ vm₁, s.WarmedH vm₁ → Pre ⟨T.setVm vm₁, locs, cells, slots⟩ argsL.toArray) :
    (∃ (v : Option Value) (vm₁ : Vm) (B : Pt), s.WarmedH vm₁ ∧ Stand p l e R s m args below meth c B.U B.locs B.cells B.slots ∧ Post ⟨T.setVm vm₁, locs, cells, slots⟩ argsL.toArray v B ∧
      ∀ target, Steps p.tables e below (B.U.setTop { g with pc := g.pc + 3, stack := v.toList ++ rest }) target → Steps p.tables e below (T.setTop g) target) ∨
    (∃ (q : Addr) (vm₁ : Vm) (B : Pt), s.WarmedH vm₁ ∧ Stand p l e R s m args below meth c B.U B.locs B.cells B.slots ∧ PostX ⟨T.setVm vm₁, locs, cells, slots⟩ argsL.toArray q B ∧
      Steps p.tables e below (T.setTop g) ((B.U.setTop { g with stack := rest }).pushFrame (.throwing q))) := by
  obtain ⟨mk, methM, cM, hnamed, hmethM, -, -, -, -, -, -, hsigM⟩ := Cond.codeWith_spec hcode
  have hstatic : methM.isStatic = true := Cond.static_spec hnamed hmethM hstat
  obtain ⟨kP, hkP, -⟩ := className_of_methodNamed hnamed
  have hinitP : kP.init = .initialized := Cond.initialized_spec (findClass_of_methodNamed hnamed) hkP hinit
  obtain ⟨vm₁, X₁, hstep₁⟩ := X.invokestatic hexec hown hlink hnamed hmethM hstatic hkP hinitP hy (g := g) hg (argsL := argsL) (rest := rest) (hlen _ hsigM) hstack hdg
  rcases hK m meth c ⟨T.setVm vm₁, locs, cells, slots⟩ { g with stack := rest } (.invokestatic index) mk argsL.toArray X₁ hg hsize hdg hW (X₁.named hnamed) (hpre vm₁ X₁.warmed) with ⟨v, B, X', hpost, hsteps⟩ | ⟨q, B, X', hpost, hsteps⟩
  · exact Or.inl ⟨v, vm₁, B, X₁.warmed, X', hpost, fun target h => hstep₁ _ fun acts => by rw [doInvoke_state]; exact hsteps.trans h⟩
  · exact Or.inr ⟨q, vm₁, B, X₁.warmed, X', hpost, hstep₁ _ fun acts => by rw [doInvoke_state]; exact hsteps⟩
theorem vx_callVW (X : Stand p l e R s m args below meth c T locs cells slots) (hexec : p.tables.exec = Jvm.exec) {own C : String} {index : Nat} {y : MethodName} {bytes : ByteArray} {maxL : Nat} {ret : Option FieldType} {hh : List (Nat × Nat × Nat × Nat)}
    (hown : s.vm.findClass own = some m.cls) (hlink : (Cond.methodLink own index y).before args s = true) (hinst : (Cond.instanceMethod y).before args s = true) (hsel : (Cond.selects C y y).before args s = true)
    (hcode : (Cond.codeWith y bytes maxL ret hh).before args s = true) (hy : y.cls ≠ "java/lang/invoke/MethodHandle" ∧ y.cls ≠ "java/lang/invoke/VarHandle")
    {W9 : Nat} {Pre : Pt → Array Value → Prop} {Post : Pt → Array Value → Option Value → Pt → Prop} (hK : Back l R p e below s args y 3 W9 Pre Post)
    {b : Addr} {cellB : Cell} (hcell : T.heap[b]? = some cellB) (hobj : cellB.vm.isStatics = false) (hcls : s.vm.findClass C = some cellB.cls)
    {g : JFrame} (hg : g.method = m) (hsize : g.locals.size = c.maxLocals) {argsL rest : List Value} (hlen : ∀ sig, parseMethodDescriptor y.desc = some sig → argsL.length = sig.parameters.length)
    (hstack : g.stack = argsL.reverse ++ .ref b :: rest) (hW : 2 * g.monitorRoom + (rest.map fun v => v.category).sum ≤ W9) (hdg : decode c.code g.pc = .ok (.invokevirtual index, 3))
    (hpre : ∀ vm₁, s.WarmedH vm₁ → Pre ⟨T.setVm vm₁, locs, cells, slots⟩ (Value.ref b :: argsL).toArray) :
    ∃ (v : Option Value) (vm₁ : Vm) (B : Pt), s.WarmedH vm₁ ∧ Stand p l e R s m args below meth c B.U B.locs B.cells B.slots ∧ Post ⟨T.setVm vm₁, locs, cells, slots⟩ (Value.ref b :: argsL).toArray v B ∧
      ∀ target, Steps p.tables e below (B.U.setTop { g with pc := g.pc + 3, stack := v.toList ++ rest }) target → Steps p.tables e below (T.setTop g) target := by
  obtain ⟨mk, methM, hnamed, hmethM, hstM, habM⟩ := Cond.instanceMethod_spec hinst
  obtain ⟨m8, methM', cM, hn8, hmethM', -, -, -, -, -, -, hsigM⟩ := Cond.codeWith_spec hcode
  cases Option.some.inj (hn8.symm.trans hnamed)
  cases hmethM.symm.trans hmethM'
  obtain ⟨c2, r2, m2, q1, q2, q3, q4, kP, hkP, hkPi⟩ := Cond.selects_spec hsel
  cases hcls.symm.trans q1
  cases (State.methodFound?_of_named hnamed hy).symm.trans q2
  cases hnamed.symm.trans q3
  have hselP : selectMethod e.platform s.vm cellB.cls mk = .method mk := by rw [Launch.admits_selectMethod X.admits]; exact q4
  obtain ⟨vm₁, X₁, hstep₁⟩ := X.invokevirtual hexec hown hlink hnamed hmethM hstM hkP hkPi hy (a := b) (cell := cellB) hcell
    (fun z h => by rw [h] at hobj; cases hobj) hselP hmethM habM hkP hkPi (g := g) hg (argsL := argsL) (rest := rest) (hlen _ hsigM) hstack hdg
  obtain ⟨v, B, X', hpost, hsteps⟩ := hK m meth c ⟨T.setVm vm₁, locs, cells, slots⟩ { g with stack := rest } (.invokevirtual index) mk (Value.ref b :: argsL).toArray X₁ hg hsize hdg hW (X₁.named hnamed) (hpre vm₁ X₁.warmed)
  exact ⟨v, vm₁, B, X₁.warmed, X', hpost, fun target h => hstep₁ _ fun acts => by rw [doInvoke_state]; exact hsteps.trans h⟩
abbrev vx_CVW (R : Room) (s : State) (args : Array Value) (own C : String) (index : Nat) (y : MethodName) (bytes : ByteArray) (maxL : Nat) (ret : Option FieldType) (hh : List (Nat × Nat × Nat × Nat)) (ws : List Cond) (rm : Room) (mc ms n : Nat) : Prop :=
  (rm.cells = mc ∧ rm.slots = ms ∧ rm.frames + 1 ≤ R.frames ∧ 8 + (maxL + 11) + rm.locals ≤ R.locals ∧ (∀ w ∈ ws, ∀ (a' : Array Value) (U : State), s.WarmedH U.vm → w.before a' U = true) ∧ Cond.codeWith y bytes maxL ret hh ∈ ws) ∧
  (Cond.codeWith y bytes maxL ret hh).before args s = true ∧ (Cond.initialized y.cls).before args s = true ∧ (y.cls ≠ "java/lang/invoke/MethodHandle" ∧ y.cls ≠ "java/lang/invoke/VarHandle") ∧
  (∀ sig, parseMethodDescriptor y.desc = some sig → n = sig.parameters.length) ∧ (Cond.methodLink own index y).before args s = true ∧ (Cond.instanceMethod y).before args s = true ∧ (Cond.selects C y y).before args s = true
theorem vx_cwVW {own C : String} {index maxL mc ms : Nat} {y : MethodName} {bytes : ByteArray} {ret : Option FieldType} {hh : List (Nat × Nat × Nat × Nat)} {Ts ws ws' : List Cond} {rm : Room} (n : Nat) (ht : ∀ w ∈ Ts, w.before args s = true) (hT : GoodIn Ts (wsV own index C y ws)) (hw : ws = Cond.codeWith y bytes maxL ret hh :: ws') (hrc : rm.cells = mc) (hrs : rm.slots = ms)
    (hd : y.cls = C ∧ y.cls ≠ "java/lang/invoke/MethodHandle" ∧ y.cls ≠ "java/lang/invoke/VarHandle" ∧ (parseMethodDescriptor y.desc).map (fun d => d.parameters.length) = some n) (hR : rm.frames + 1 ≤ R.frames ∧ 8 + (maxL + 11) + rm.locals ≤ R.locals) :
    vx_CVW R s args own C index y bytes maxL ret hh ws rm mc ms n := by
  obtain ⟨hC, hd⟩ := hd
  subst hC
  have ok : ∀ w ∈ wsV own index y.cls y ws, w.before args s = true := fun w h => ht w (hT w h).1
  have hG : GoodIn Ts ws := fun w h => hT w (by unfold wsV; exact List.mem_append_right _ h)
  have hc : Cond.codeWith y bytes maxL ret hh ∈ ws := by rw [hw]; exact List.mem_cons_self
  refine ⟨⟨hrc, hrs, hR.1, hR.2, pay_in ht hG, hc⟩, ht _ (hG _ hc).1, ok _ (by simp [wsV]), ⟨hd.1, hd.2.1⟩, fun sig h => ?_, ok _ (by simp [wsV]), ok _ (by simp [wsV]), ok _ (by simp [wsV])⟩
  have h2 := hd.2.2
  rw [h] at h2
  exact (Option.some.inj h2).symm
theorem vx_runVW {y : MethodName} {bytes cc : ByteArray} {maxL nL mc ms n index : Nat} {ret : Option FieldType} {hh : List (Nat × Nat × Nat × Nat)} {ws : List Cond} {rm : Room} {Pc : Array Value → State → Prop} {Qc : Array Value → State → Outcome → State → Prop} {free : Addr → Prop} {Ts : List Cond} {own C : String} {b : Addr} {As rest : List Value} {g : JFrame}
    (S : CallFix p m c cc nL s args Ts own) (hM : Met l y ws rm Pc Qc mc ms free) (cw : vx_CVW R s args own C index y bytes maxL ret hh ws rm mc ms n) (hp : PreV s H C b Pc As)
    (hg : g.method = m) (hn : As.length = n) (hsize : g.locals.size = nL) (hstack : g.stack = As.reverse ++ .ref b :: rest) (hW : 2 * g.monitorRoom + (rest.map fun v => v.category).sum ≤ 8) (hdg : decode cc g.pc = .ok (.invokevirtual index, 3)) (hf : cells + mc ≤ R.cells ∧ slots + ms ≤ R.slots) :
    va_Run p l e R s m args below meth c H locs cells slots mc ms g rest (Qc (Value.ref b :: As).toArray) free := by
  obtain ⟨⟨hrc, hrs, hfr, hlo, hws, hcw⟩, hcode, hini, hy, hlen, hl, hin, hse⟩ := cw
  have hK : Back l R p e below s args y 3 8 (PreOf R mc ms Pc) (PostOf Qc mc ms free) := va_backW (hh := hh) (bytes := bytes) (maxL := maxL) (ret := ret) hM hp.1 hrc hrs hfr hlo hws hcw (fun a' U hW => word_at hW (Or.inl (by first | rfl | simp [Cond.onTables, Cond.keeps, Cond.steady])) hini)
  obtain ⟨hx, hb, hml, ho, -⟩ := S
  obtain ⟨-, ⟨cellB, hcB, hoB, hclB⟩, hPc⟩ := hp
  intro T hT X
  obtain ⟨v, vm₁, ⟨U', l2, c2, s2⟩, hW₁, X', ⟨g', mk, t, L, e1, e2, hq, h1, hL, h2, h3⟩, st⟩ := vx_callVW X hx (C := C) (hh := hh) (bytes := bytes) (maxL := maxL) (ret := ret) ho hl hin hse hcode hy hK (by rw [hT]; exact hcB) hoB hclB hg (hsize.trans hml.symm) (argsL := As) (rest := rest) (fun sig h => hn.trans (hlen sig h)) hstack hW (by rw [hb]; exact hdg)
    (fun vm₁ hW₁ => ⟨hf.1, hf.2, hPc (T.setVm vm₁) hT hW₁⟩)
  dsimp only [Pt.U, Pt.locs, Pt.cells, Pt.slots] at X' e1 e2 h1 h2 h3 st
  subst h1; subst h2; subst h3
  exact ⟨v, (T.setVm vm₁).calling g' mk (Value.ref b :: As).toArray, t, U', L, hT, X', hL, e1, e2, hq, st⟩
section
variable {y : MethodName} {bytes cc : ByteArray} {maxL nL mc ms n index : Nat} {ret : Option FieldType} {ws : List Cond} {rm : Room} {Pc : Array Value → State → Prop} {Qc : Array Value → State → Outcome → State → Prop} {XC : String → State → State → Prop} {free : Addr → Prop} {Ts : List Cond} {own C : String} {b : Addr} {As rest : List Value} {g : JFrame}
theorem vx_runVX {hh : List (Nat × Nat × Nat × Nat)} (S : CallFix p m c cc nL s args Ts own) (hM : vx_Met l y ws rm Pc Qc XC mc ms free) (cw : vx_CVW R s args own C index y bytes maxL ret hh ws rm mc ms n) (hp : PreV s H C b Pc As)
    (hg : g.method = m) (hn : As.length = n) (hsize : g.locals.size = nL) (hstack : g.stack = As.reverse ++ .ref b :: rest) (hW : 2 * g.monitorRoom + (rest.map fun v => v.category).sum ≤ 8) (hdg : decode cc g.pc = .ok (.invokevirtual index, 3)) (hf : cells + mc ≤ R.cells ∧ slots + ms ≤ R.slots) :
    vx_Run p l e R s m args below meth c H locs cells slots mc ms g rest (Qc (Value.ref b :: As).toArray) XC free := by
  obtain ⟨⟨hrc, hrs, hfr, hlo, hws, hcw⟩, hcode, hini, hy, hlen, hl, hin, hse⟩ := cw
  have hK : vx_Back l R p e below s args y 3 8 (PreOf R mc ms Pc) (PostOf Qc mc ms free) (vx_Post XC mc ms free) := vx_backW (hh := hh) (bytes := bytes) (maxL := maxL) (ret := ret) hM hp.1 hrc hrs hfr hlo hws hcw (fun a' U hW => word_at hW (Or.inl (by first | rfl | simp [Cond.onTables, Cond.keeps, Cond.steady])) hini)
  obtain ⟨hx, hb, hml, ho, -⟩ := S
  obtain ⟨-, ⟨cellB, hcB, hoB, hclB⟩, hPc⟩ := hp
  intro T hT X
  rcases vx_callVX X hx (C := C) (hh := hh) (bytes := bytes) (maxL := maxL) (ret := ret) ho hl hin hse hcode hy hK (by rw [hT]; exact hcB) hoB hclB hg (hsize.trans hml.symm) (argsL := As) (rest := rest) (fun sig h => hn.trans (hlen sig h)) hstack hW (by rw [hb]; exact hdg)
    (fun vm₁ hW₁ => ⟨hf.1, hf.2, hPc (T.setVm vm₁) hT hW₁⟩) with ⟨v, vm₁, ⟨U', l2, c2, s2⟩, hW₁, X', ⟨g', mk, t, L, e1, e2, hq, h1, hL, h2, h3⟩, st⟩ | ⟨q, vm₁, ⟨U', l2, c2, s2⟩, hW₁, X', ⟨g', mk, t, L, E, ce, e1, e2, hq, hce, hcv, hcl, h1, hL, h2, h3⟩, st⟩
  · dsimp only [Pt.U, Pt.locs, Pt.cells, Pt.slots] at X' e1 e2 h1 h2 h3 st
    subst h1; subst h2; subst h3
    exact Or.inl ⟨v, (T.setVm vm₁).calling g' mk (Value.ref b :: As).toArray, t, U', L, hT, X', hL, e1, e2, hq, st⟩
  · dsimp only [Pt.U, Pt.locs, Pt.cells, Pt.slots] at X' e1 e2 h1 h2 h3 st hcl
    subst h1; subst h2; subst h3
    exact Or.inr ⟨q, (T.setVm vm₁).calling g' mk (Value.ref b :: As).toArray, t, U', L, E, ce, hT, X', hL, e1, e2, hq, hce, hcv, vx_cls hW₁ hcl, st⟩
theorem vx_runSX {hh : List (Nat × Nat × Nat × Nat)} (S : CallFix p m c cc nL s args Ts own) (hM : vx_Met l y ws rm Pc Qc XC mc ms free) (cw : vx_CSW R s args own index y bytes maxL ret hh ws rm mc ms n) (hp : PreS s H Pc As)
    (hg : g.method = m) (hn : As.length = n) (hsize : g.locals.size = nL) (hstack : g.stack = As.reverse ++ rest) (hW : 2 * g.monitorRoom + (rest.map fun v => v.category).sum ≤ 8) (hdg : decode cc g.pc = .ok (.invokestatic index, 3)) (hf : cells + mc ≤ R.cells ∧ slots + ms ≤ R.slots) :
    vx_Run p l e R s m args below meth c H locs cells slots mc ms g rest (Qc As.toArray) XC free := by
  obtain ⟨⟨hrc, hrs, hfr, hlo, hws, hcw⟩, hcode, hini, hy, hlen, hl, hstt⟩ := cw
  have hK : vx_Back l R p e below s args y 3 8 (PreOf R mc ms Pc) (PostOf Qc mc ms free) (vx_Post XC mc ms free) := vx_backW (hh := hh) (bytes := bytes) (maxL := maxL) (ret := ret) hM hp.1 hrc hrs hfr hlo hws hcw (fun a' U hW => word_at hW (Or.inl (by first | rfl | simp [Cond.onTables, Cond.keeps, Cond.steady])) hini)
  obtain ⟨hx, hb, hml, ho, -⟩ := S
  intro T hT X
  rcases vx_callSX X hx (hh := hh) (bytes := bytes) (maxL := maxL) (ret := ret) ho hl hstt hini hcode hy hK hg (hsize.trans hml.symm) (argsL := As) (rest := rest) (fun sig h => hn.trans (hlen sig h)) hstack hW (by rw [hb]; exact hdg)
    (fun vm₁ hW₁ => ⟨hf.1, hf.2, hp.2 (T.setVm vm₁) hT hW₁⟩) with ⟨v, vm₁, ⟨U', l2, c2, s2⟩, hW₁, X', ⟨g', mk, t, L, e1, e2, hq, h1, hL, h2, h3⟩, st⟩ | ⟨q, vm₁, ⟨U', l2, c2, s2⟩, hW₁, X', ⟨g', mk, t, L, E, ce, e1, e2, hq, hce, hcv, hcl, h1, hL, h2, h3⟩, st⟩
  · dsimp only [Pt.U, Pt.locs, Pt.cells, Pt.slots] at X' e1 e2 h1 h2 h3 st
    subst h1; subst h2; subst h3
    exact Or.inl ⟨v, (T.setVm vm₁).calling g' mk As.toArray, t, U', L, hT, X', hL, e1, e2, hq, st⟩
  · dsimp only [Pt.U, Pt.locs, Pt.cells, Pt.slots] at X' e1 e2 h1 h2 h3 st hcl
    subst h1; subst h2; subst h3
    exact Or.inr ⟨q, (T.setVm vm₁).calling g' mk As.toArray, t, U', L, E, ce, hT, X', hL, e1, e2, hq, hce, hcv, vx_cls hW₁ hcl, st⟩
end
end VXH
theorem vx_ofWH {l : Launch} {y : MethodName} {ws ws' : List Cond} {rm : Room} {Pc : Array Value → State → Prop} {Qc : Array Value → State → Outcome → State → Prop} {XC : String → State → State → Prop} {mc ms : Nat} {free : Addr → Prop} {cc : ByteArray} {maxL : Nat} {ret : Option FieldType} {hh : List (Nat × Nat × Nat × Nat)}
    (hy : plainName y.cls = true) (hw : ws = Cond.codeWith y cc maxL ret hh :: ws')
    (body : ∀ p e s m args below meth c s₁, BodyLoose p l y (headSpec ws rm) cc maxL ret e s m args below meth c s₁ → c.maxLocals = maxL → Pc args s →
      W p l e (headSpec ws rm).room s m args below meth c s.heap [] 0 0 (vx_MQ below Qc XC args s mc ms free) (entryFrame m args maxL)) : vx_Met l y ws rm Pc Qc XC mc ms free := by
  refine MetFree.of_bodyS (code := cc) (maxLocals := maxL) (ret := ret) hy ?_ ?_
  · intro args s m h hn
    obtain ⟨m9, meth, c, hn9, h1, h2, h3, h4, -, h5, h6, -⟩ := Cond.codeWith_spec (atoms_spec (ws := ws) h _ (by rw [hw]; exact List.mem_cons_self))
    cases hn.symm.trans hn9
    exact ⟨meth, c, h1, h2, h3, h4, h5, h6⟩
  · intro p e s m args below meth c s₁ B hml hP _
    have hh0 : s₁.heap = s.heap := by rw [B.state]; rfl
    obtain ⟨t, a1, o, b1, b2, b3⟩ := body p e s m args below meth c s₁ B hml hP s₁ hh0 (Stand.of_body B)
    exact ⟨t, o, a1, b1, b2, b3⟩
/-! ===== END ===== -/
end
section
/-! NAMES: words of the tables, classes, fields, methods (laid by my program out of the task) -/
/-- the words of the tables that stay true under warmer tables -/
def wAll : List Cond := lw_tbl.filter goodWord
theorem wA {w : Cond} (i : Nat) (h : tables_1[i]? = some w) (hg : goodWord w = true) : w ∈ wAll := List.mem_filter.mpr ⟨List.mem_append_right _ (List.mem_of_getElem? h), hg⟩
theorem wA_tbl {w : Cond} (h : w ∈ wAll) : w ∈ lw_tbl := (List.mem_filter.mp h).1
theorem wA_good : ∀ w ∈ wAll, (w.onTables && w.keeps) = true ∨ ∃ ty, w = .arrayClass ty := fun _ h => good_of_word (List.mem_filter.mp h).2
theorem wP {y : MethodName} {n : Nat} (h : (y, n) ∈ lw_privs) : Cond.selects y.cls y y ∈ wAll := List.mem_filter.mpr ⟨List.mem_append_left _ (List.mem_map.mpr ⟨(y, n), h, rfl⟩), rfl⟩
theorem gV {own : String} {idx : Nat} {C : String} {y : MethodName} {b : ByteArray} {n : Nat} {r : Option FieldType} (h1 : Cond.methodLink own idx y ∈ wAll) (h2 : Cond.instanceMethod y ∈ wAll) (h3 : Cond.selects C y y ∈ wAll) (h4 : Cond.initialized C ∈ wAll) (h5 : Cond.code y b n r ∈ wAll) : GoodIn wAll (wsV own idx C y (Cond.code y b n r :: wAll)) := by
  intro w hw
  have key : w ∈ wAll := by
    simp only [wsV, List.mem_append, List.mem_cons, List.not_mem_nil, or_false] at hw
    rcases hw with (rfl | rfl | rfl | rfl) | rfl | h
    · exact h1
    · exact h2
    · exact h3
    · exact h4
    · exact h5
    · exact h
  exact ⟨key, wA_good w key⟩
theorem gS {own : String} {idx : Nat} {y : MethodName} {b : ByteArray} {n : Nat} {r : Option FieldType} (h1 : Cond.methodLink own idx y ∈ wAll) (h2 : Cond.static y ∈ wAll) (h4 : Cond.initialized y.cls ∈ wAll) (h5 : Cond.code y b n r ∈ wAll) : GoodIn wAll (va_wsS own idx y (Cond.code y b n r :: wAll)) := by
  intro w hw
  have key : w ∈ wAll := by
    simp only [va_wsS, List.mem_append, List.mem_cons, List.not_mem_nil, or_false] at hw
    rcases hw with (rfl | rfl | rfl) | rfl | h
    · exact h1
    · exact h2
    · exact h4
    · exact h5
    · exact h
  exact ⟨key, wA_good w key⟩
theorem gI {y : MethodName} {b : ByteArray} {n : Nat} {r : Option FieldType} (h5 : Cond.code y b n r ∈ wAll) : GoodIn wAll (Cond.code y b n r :: wAll) := by
  intro w hw
  have key : w ∈ wAll := by
    rcases List.mem_cons.mp hw with rfl | h
    · exact h5
    · exact h
  exact ⟨key, wA_good w key⟩
theorem gSW {own : String} {idx : Nat} {y : MethodName} {b : ByteArray} {n : Nat} {r : Option FieldType} {hh : List (Nat × Nat × Nat × Nat)} (h1 : Cond.methodLink own idx y ∈ wAll) (h2 : Cond.static y ∈ wAll) (h4 : Cond.initialized y.cls ∈ wAll) (h5 : Cond.codeWith y b n r hh ∈ wAll) : GoodIn wAll (va_wsS own idx y (Cond.codeWith y b n r hh :: wAll)) := by
  intro w hw
  have key : w ∈ wAll := by
    simp only [va_wsS, List.mem_append, List.mem_cons, List.not_mem_nil, or_false] at hw
    rcases hw with (rfl | rfl | rfl) | rfl | h
    · exact h1
    · exact h2
    · exact h4
    · exact h5
    · exact h
  exact ⟨key, wA_good w key⟩
abbrev bX_init : ByteArray := prog_1_method_1_code
def yX_init : MethodName := ⟨"GroupRows", "<init>", "()V"⟩
abbrev bJO_init : ByteArray := object_method_1_code
def yJO_init : MethodName := ⟨"java/lang/Object", "<init>", "()V"⟩
abbrev bX_rows : ByteArray := prog_1_method_8_code
def yX_rows : MethodName := ⟨"GroupRows", "rows", "()I"⟩
abbrev bX_find : ByteArray := prog_1_method_9_code
def yX_find : MethodName := ⟨"GroupRows", "find", "()I"⟩
abbrev bX_lowerPlace : ByteArray := prog_1_method_23_code
def yX_lowerPlace : MethodName := ⟨"GroupRows", "lowerPlace", "([III)I"⟩
abbrev bX_compareKey : ByteArray := prog_1_method_25_code
def yX_compareKey : MethodName := ⟨"GroupRows", "compareKey", "(I[II)I"⟩
abbrev bJI_compare : ByteArray := prog_6_method_40_code
def yJI_compare : MethodName := ⟨"java/lang/Integer", "compare", "(II)I"⟩
abbrev bX_isKeyAt : ByteArray := prog_1_method_24_code
def yX_isKeyAt : MethodName := ⟨"GroupRows", "isKeyAt", "(I[III)Z"⟩
abbrev bL_begin : ByteArray := method_3_code
def yL_begin : MethodName := ⟨"GroupRowsLaw", "begin", "(LGroupRows;II)I"⟩
abbrev bX_begin : ByteArray := prog_1_method_2_code
def yX_begin : MethodName := ⟨"GroupRows", "begin", "(II)V"⟩
abbrev bJA_fillI : ByteArray := prog_12_method_103_code
def yJA_fillI : MethodName := ⟨"java/util/Arrays", "fill", "([II)V"⟩
abbrev bJA_fillJ : ByteArray := prog_12_method_101_code
def yJA_fillJ : MethodName := ⟨"java/util/Arrays", "fill", "([JJ)V"⟩
abbrev bL_key : ByteArray := method_4_code
def yL_key : MethodName := ⟨"GroupRowsLaw", "key", "(LGroupRows;II[J)I"⟩
abbrev bX_key : ByteArray := prog_1_method_3_code
def yX_key : MethodName := ⟨"GroupRows", "key", "(II)I"⟩
abbrev bX_isPart : ByteArray := prog_1_method_13_code
def yX_isPart : MethodName := ⟨"GroupRows", "isPart", "(I)Z"⟩
abbrev bL_amount : ByteArray := method_5_code
def yL_amount : MethodName := ⟨"GroupRowsLaw", "amount", "(LGroupRows;IJ[J)I"⟩
abbrev bX_amount : ByteArray := prog_1_method_4_code
def yX_amount : MethodName := ⟨"GroupRows", "amount", "(IJ)J"⟩
abbrev bX_isMeasure : ByteArray := prog_1_method_14_code
def yX_isMeasure : MethodName := ⟨"GroupRows", "isMeasure", "(I)Z"⟩
abbrev bL_add : ByteArray := method_6_code
def yL_add : MethodName := ⟨"GroupRowsLaw", "add", "(LGroupRows;I[J)I"⟩
abbrev bX_add : ByteArray := prog_1_method_5_code
def yX_add : MethodName := ⟨"GroupRows", "add", "(I)I"⟩
abbrev bX_takeFact : ByteArray := prog_1_method_17_code
def yX_takeFact : MethodName := ⟨"GroupRows", "takeFact", "(I)Z"⟩
abbrev bX_openRow : ByteArray := prog_1_method_18_code
def yX_openRow : MethodName := ⟨"GroupRows", "openRow", "(I)V"⟩
abbrev bX_insertSlot : ByteArray := prog_1_method_22_code
def yX_insertSlot : MethodName := ⟨"GroupRows", "insertSlot", "(III)V"⟩
abbrev bX_joinFact : ByteArray := prog_1_method_19_code
def yX_joinFact : MethodName := ⟨"GroupRows", "joinFact", "(II)V"⟩
abbrev bJM_min : ByteArray := prog_7_method_70_code
def yJM_min : MethodName := ⟨"java/lang/Math", "min", "(JJ)J"⟩
abbrev bJM_max : ByteArray := prog_7_method_66_code
def yJM_max : MethodName := ⟨"java/lang/Math", "max", "(JJ)J"⟩
abbrev bL_spread : ByteArray := method_7_code
def yL_spread : MethodName := ⟨"GroupRowsLaw", "spread", "(LGroupRows;III[J)I"⟩
abbrev bX_spread : ByteArray := prog_1_method_6_code
def yX_spread : MethodName := ⟨"GroupRows", "spread", "(III)I"⟩
abbrev bX_stepFact : ByteArray := prog_1_method_16_code
def yX_stepFact : MethodName := ⟨"GroupRows", "stepFact", "(II)V"⟩
abbrev bL_roll : ByteArray := method_8_code
def yL_roll : MethodName := ⟨"GroupRowsLaw", "roll", "(LGroupRows;I[J)I"⟩
abbrev bX_roll : ByteArray := prog_1_method_7_code
def yX_roll : MethodName := ⟨"GroupRows", "roll", "(I)I"⟩
abbrev bX_regroup : ByteArray := prog_1_method_21_code
def yX_regroup : MethodName := ⟨"GroupRows", "regroup", "()I"⟩
abbrev bX_joinRow : ByteArray := prog_1_method_20_code
def yX_joinRow : MethodName := ⟨"GroupRows", "joinRow", "(II)V"⟩
abbrev bL_keyAt : ByteArray := method_9_code
def yL_keyAt : MethodName := ⟨"GroupRowsLaw", "keyAt", "(LGroupRows;II[J)I"⟩
abbrev bX_keyAt : ByteArray := prog_1_method_10_code
def yX_keyAt : MethodName := ⟨"GroupRows", "keyAt", "(II)I"⟩
abbrev bX_isPlace : ByteArray := prog_1_method_15_code
def yX_isPlace : MethodName := ⟨"GroupRows", "isPlace", "(I)Z"⟩
abbrev bL_count : ByteArray := method_10_code
def yL_count : MethodName := ⟨"GroupRowsLaw", "count", "(LGroupRows;I[J)I"⟩
abbrev bX_count : ByteArray := prog_1_method_11_code
def yX_count : MethodName := ⟨"GroupRows", "count", "(I)J"⟩
abbrev bL_told : ByteArray := method_11_code
def yL_told : MethodName := ⟨"GroupRowsLaw", "told", "(LGroupRows;III[J)I"⟩
abbrev bX_told : ByteArray := prog_1_method_12_code
def yX_told : MethodName := ⟨"GroupRows", "told", "(III)J"⟩
abbrev bM_init : ByteArray := prog_3_method_1_code
def yM_init : MethodName := ⟨"GroupRowsModel", "<init>", "()V"⟩
abbrev bM_thrown : ByteArray := prog_3_method_2_code
def yM_thrown : MethodName := ⟨"GroupRowsModel", "thrown", "()I"⟩
abbrev bM_begin : ByteArray := prog_3_method_3_code
def yM_begin : MethodName := ⟨"GroupRowsModel", "begin", "(II)V"⟩
abbrev bM_key : ByteArray := prog_3_method_4_code
def yM_key : MethodName := ⟨"GroupRowsModel", "key", "(II)I"⟩
abbrev bM_amount : ByteArray := prog_3_method_5_code
def yM_amount : MethodName := ⟨"GroupRowsModel", "amount", "(IJ)J"⟩
abbrev bM_add : ByteArray := prog_3_method_10_code
def yM_add : MethodName := ⟨"GroupRowsModel", "add", "(I)I"⟩
abbrev bM_comes : ByteArray := prog_3_method_9_code
def yM_comes : MethodName := ⟨"GroupRowsModel", "comes", "(I)Z"⟩
abbrev bM_before : ByteArray := prog_3_method_7_code
def yM_before : MethodName := ⟨"GroupRowsModel", "before", "()I"⟩
abbrev bM_against : ByteArray := prog_3_method_6_code
def yM_against : MethodName := ⟨"GroupRowsModel", "against", "(I)I"⟩
abbrev bM_copy : ByteArray := prog_3_method_8_code
def yM_copy : MethodName := ⟨"GroupRowsModel", "copy", "(II)V"⟩
abbrev bM_spread : ByteArray := prog_3_method_11_code
def yM_spread : MethodName := ⟨"GroupRowsModel", "spread", "(III)I"⟩
abbrev bM_roll : ByteArray := prog_3_method_14_code
def yM_roll : MethodName := ⟨"GroupRowsModel", "roll", "(I)I"⟩
abbrev bM_compared : ByteArray := prog_3_method_13_code
def yM_compared : MethodName := ⟨"GroupRowsModel", "compared", "(II)I"⟩
abbrev bM_join : ByteArray := prog_3_method_12_code
def yM_join : MethodName := ⟨"GroupRowsModel", "join", "(II)V"⟩
abbrev bM_sort : ByteArray := prog_3_method_16_code
def yM_sort : MethodName := ⟨"GroupRowsModel", "sort", "()V"⟩
abbrev bM_swap : ByteArray := prog_3_method_15_code
def yM_swap : MethodName := ⟨"GroupRowsModel", "swap", "(II)V"⟩
abbrev bM_rows : ByteArray := prog_3_method_17_code
def yM_rows : MethodName := ⟨"GroupRowsModel", "rows", "()I"⟩
abbrev bM_find : ByteArray := prog_3_method_18_code
def yM_find : MethodName := ⟨"GroupRowsModel", "find", "()I"⟩
abbrev bM_keyAt : ByteArray := prog_3_method_20_code
def yM_keyAt : MethodName := ⟨"GroupRowsModel", "keyAt", "(II)I"⟩
abbrev bM_isRow : ByteArray := prog_3_method_19_code
def yM_isRow : MethodName := ⟨"GroupRowsModel", "isRow", "(I)Z"⟩
abbrev bM_count : ByteArray := prog_3_method_21_code
def yM_count : MethodName := ⟨"GroupRowsModel", "count", "(I)J"⟩
abbrev bM_told : ByteArray := prog_3_method_22_code
def yM_told : MethodName := ⟨"GroupRowsModel", "told", "(III)J"⟩
abbrev bL_law : ByteArray := code
def yL_law : MethodName := ⟨"GroupRowsLaw", "law", "([I)Z"⟩
theorem w0 : (Cond.initialized "GroupRowsLaw" : Cond) ∈ wAll := wA 0 (by decide +kernel) (by decide +kernel)
theorem w1 : (Cond.initialized "GroupRows" : Cond) ∈ wAll := wA 1 (by decide +kernel) (by decide +kernel)
theorem w2 : (Cond.initialized "GroupRowsModel" : Cond) ∈ wAll := wA 2 (by decide +kernel) (by decide +kernel)
theorem w3 : (Cond.initialized "java/lang/Throwable" : Cond) ∈ wAll := wA 3 (by decide +kernel) (by decide +kernel)
theorem w4 : (Cond.initialized "java/lang/Exception" : Cond) ∈ wAll := wA 4 (by decide +kernel) (by decide +kernel)
theorem w5 : (Cond.initialized "java/lang/RuntimeException" : Cond) ∈ wAll := wA 5 (by decide +kernel) (by decide +kernel)
theorem w6 : (Cond.initialized "java/lang/IllegalArgumentException" : Cond) ∈ wAll := wA 6 (by decide +kernel) (by decide +kernel)
theorem w7 : (Cond.initialized "java/util/Arrays" : Cond) ∈ wAll := wA 7 (by decide +kernel) (by decide +kernel)
theorem w8 : (Cond.initialized "java/lang/Integer" : Cond) ∈ wAll := wA 8 (by decide +kernel) (by decide +kernel)
theorem w9 : (Cond.initialized "java/lang/System" : Cond) ∈ wAll := wA 9 (by decide +kernel) (by decide +kernel)
theorem w10 : (Cond.initialized "java/lang/Math" : Cond) ∈ wAll := wA 10 (by decide +kernel) (by decide +kernel)
theorem w11 : (Cond.classLink "GroupRowsLaw" 8 "GroupRows" : Cond) ∈ wAll := wA 11 (by decide +kernel) (by decide +kernel)
theorem w12 : (Cond.instantiable "GroupRows" 11 : Cond) ∈ wAll := wA 12 (by decide +kernel) (by decide +kernel)
theorem w13 : (Cond.methodLink "GroupRowsLaw" 45 ⟨"GroupRows", "<init>", "()V"⟩ : Cond) ∈ wAll := wA 13 (by decide +kernel) (by decide +kernel)
theorem w14 : (Cond.instanceMethod ⟨"GroupRows", "<init>", "()V"⟩ : Cond) ∈ wAll := wA 14 (by decide +kernel) (by decide +kernel)
theorem w15 : (Cond.code ⟨"GroupRows", "<init>", "()V"⟩ prog_1_method_1_code 2 none : Cond) ∈ wAll := wA 15 (by decide +kernel) (by decide +kernel)
theorem w16 : (Cond.methodLink "GroupRows" 1 ⟨"java/lang/Object", "<init>", "()V"⟩ : Cond) ∈ wAll := wA 16 (by decide +kernel) (by decide +kernel)
theorem w17 : (Cond.instanceMethod ⟨"java/lang/Object", "<init>", "()V"⟩ : Cond) ∈ wAll := wA 17 (by decide +kernel) (by decide +kernel)
theorem w18 : (Cond.code ⟨"java/lang/Object", "<init>", "()V"⟩ object_method_1_code 1 none : Cond) ∈ wAll := wA 18 (by decide +kernel) (by decide +kernel)
theorem w19 : (Cond.fieldLink "GroupRows" 7 "GroupRows" "width" "I" : Cond) ∈ wAll := wA 19 (by decide +kernel) (by decide +kernel)
theorem w20 : (Cond.fieldLink "GroupRows" 13 "GroupRows" "measures" "I" : Cond) ∈ wAll := wA 20 (by decide +kernel) (by decide +kernel)
theorem w21 : (Cond.fieldLink "GroupRows" 16 "GroupRows" "rowCount" "I" : Cond) ∈ wAll := wA 21 (by decide +kernel) (by decide +kernel)
theorem w22 : (Cond.fieldLink "GroupRows" 19 "GroupRows" "factKey" "[I" : Cond) ∈ wAll := wA 22 (by decide +kernel) (by decide +kernel)
theorem w23 : (Cond.fieldLink "GroupRows" 23 "GroupRows" "factAmounts" "[J" : Cond) ∈ wAll := wA 23 (by decide +kernel) (by decide +kernel)
theorem w24 : (Cond.fieldLink "GroupRows" 27 "GroupRows" "slots" "[I" : Cond) ∈ wAll := wA 24 (by decide +kernel) (by decide +kernel)
theorem w25 : (Cond.fieldLink "GroupRows" 30 "GroupRows" "keys" "[I" : Cond) ∈ wAll := wA 25 (by decide +kernel) (by decide +kernel)
theorem w26 : (Cond.fieldLink "GroupRows" 33 "GroupRows" "counts" "[J" : Cond) ∈ wAll := wA 26 (by decide +kernel) (by decide +kernel)
theorem w27 : (Cond.fieldLink "GroupRows" 36 "GroupRows" "sums" "[J" : Cond) ∈ wAll := wA 27 (by decide +kernel) (by decide +kernel)
theorem w28 : (Cond.fieldLink "GroupRows" 39 "GroupRows" "leasts" "[J" : Cond) ∈ wAll := wA 28 (by decide +kernel) (by decide +kernel)
theorem w29 : (Cond.fieldLink "GroupRows" 42 "GroupRows" "greatests" "[J" : Cond) ∈ wAll := wA 29 (by decide +kernel) (by decide +kernel)
theorem w30 : (Cond.lays "GroupRows" "GroupRows" "width" "I" : Cond) ∈ wAll := wA 30 (by decide +kernel) (by decide +kernel)
theorem w31 : (Cond.soleField "GroupRows" "width" : Cond) ∈ wAll := wA 31 (by decide +kernel) (by decide +kernel)
theorem w32 : (Cond.lays "GroupRows" "GroupRows" "measures" "I" : Cond) ∈ wAll := wA 32 (by decide +kernel) (by decide +kernel)
theorem w33 : (Cond.soleField "GroupRows" "measures" : Cond) ∈ wAll := wA 33 (by decide +kernel) (by decide +kernel)
theorem w34 : (Cond.lays "GroupRows" "GroupRows" "rowCount" "I" : Cond) ∈ wAll := wA 34 (by decide +kernel) (by decide +kernel)
theorem w35 : (Cond.soleField "GroupRows" "rowCount" : Cond) ∈ wAll := wA 35 (by decide +kernel) (by decide +kernel)
theorem w36 : (Cond.laysFinal "GroupRows" "GroupRows" "factKey" "[I" : Cond) ∈ wAll := wA 36 (by decide +kernel) (by decide +kernel)
theorem w37 : (Cond.soleField "GroupRows" "factKey" : Cond) ∈ wAll := wA 37 (by decide +kernel) (by decide +kernel)
theorem w38 : (Cond.laysFinal "GroupRows" "GroupRows" "factAmounts" "[J" : Cond) ∈ wAll := wA 38 (by decide +kernel) (by decide +kernel)
theorem w39 : (Cond.soleField "GroupRows" "factAmounts" : Cond) ∈ wAll := wA 39 (by decide +kernel) (by decide +kernel)
theorem w40 : (Cond.laysFinal "GroupRows" "GroupRows" "slots" "[I" : Cond) ∈ wAll := wA 40 (by decide +kernel) (by decide +kernel)
theorem w41 : (Cond.soleField "GroupRows" "slots" : Cond) ∈ wAll := wA 41 (by decide +kernel) (by decide +kernel)
theorem w42 : (Cond.laysFinal "GroupRows" "GroupRows" "keys" "[I" : Cond) ∈ wAll := wA 42 (by decide +kernel) (by decide +kernel)
theorem w43 : (Cond.soleField "GroupRows" "keys" : Cond) ∈ wAll := wA 43 (by decide +kernel) (by decide +kernel)
theorem w44 : (Cond.laysFinal "GroupRows" "GroupRows" "counts" "[J" : Cond) ∈ wAll := wA 44 (by decide +kernel) (by decide +kernel)
theorem w45 : (Cond.soleField "GroupRows" "counts" : Cond) ∈ wAll := wA 45 (by decide +kernel) (by decide +kernel)
theorem w46 : (Cond.laysFinal "GroupRows" "GroupRows" "sums" "[J" : Cond) ∈ wAll := wA 46 (by decide +kernel) (by decide +kernel)
theorem w47 : (Cond.soleField "GroupRows" "sums" : Cond) ∈ wAll := wA 47 (by decide +kernel) (by decide +kernel)
theorem w48 : (Cond.laysFinal "GroupRows" "GroupRows" "leasts" "[J" : Cond) ∈ wAll := wA 48 (by decide +kernel) (by decide +kernel)
theorem w49 : (Cond.soleField "GroupRows" "leasts" : Cond) ∈ wAll := wA 49 (by decide +kernel) (by decide +kernel)
theorem w50 : (Cond.laysFinal "GroupRows" "GroupRows" "greatests" "[J" : Cond) ∈ wAll := wA 50 (by decide +kernel) (by decide +kernel)
theorem w51 : (Cond.soleField "GroupRows" "greatests" : Cond) ∈ wAll := wA 51 (by decide +kernel) (by decide +kernel)
theorem w52 : (Cond.superclass "GroupRows" "java/lang/Object" : Cond) ∈ wAll := wA 52 (by decide +kernel) (by decide +kernel)
theorem w53 : (Cond.arrayClass .int : Cond) ∈ wAll := wA 53 (by decide +kernel) (by decide +kernel)
theorem w54 : (Cond.arrayClass .long : Cond) ∈ wAll := wA 54 (by decide +kernel) (by decide +kernel)
theorem w55 : (Cond.methodLink "GroupRowsLaw" 80 ⟨"GroupRows", "rows", "()I"⟩ : Cond) ∈ wAll := wA 55 (by decide +kernel) (by decide +kernel)
theorem w56 : (Cond.instanceMethod ⟨"GroupRows", "rows", "()I"⟩ : Cond) ∈ wAll := wA 56 (by decide +kernel) (by decide +kernel)
theorem w57 : (Cond.selects "GroupRows" ⟨"GroupRows", "rows", "()I"⟩ ⟨"GroupRows", "rows", "()I"⟩ : Cond) ∈ wAll := wA 57 (by decide +kernel) (by decide +kernel)
theorem w58 : (Cond.code ⟨"GroupRows", "rows", "()I"⟩ prog_1_method_8_code 1 (some .int) : Cond) ∈ wAll := wA 58 (by decide +kernel) (by decide +kernel)
theorem w59 : (Cond.methodLink "GroupRowsLaw" 84 ⟨"GroupRows", "find", "()I"⟩ : Cond) ∈ wAll := wA 59 (by decide +kernel) (by decide +kernel)
theorem w60 : (Cond.instanceMethod ⟨"GroupRows", "find", "()I"⟩ : Cond) ∈ wAll := wA 60 (by decide +kernel) (by decide +kernel)
theorem w61 : (Cond.selects "GroupRows" ⟨"GroupRows", "find", "()I"⟩ ⟨"GroupRows", "find", "()I"⟩ : Cond) ∈ wAll := wA 61 (by decide +kernel) (by decide +kernel)
theorem w62 : (Cond.code ⟨"GroupRows", "find", "()I"⟩ prog_1_method_9_code 2 (some .int) : Cond) ∈ wAll := wA 62 (by decide +kernel) (by decide +kernel)
theorem w63 : (Cond.methodLink "GroupRows" 91 ⟨"GroupRows", "lowerPlace", "([III)I"⟩ : Cond) ∈ wAll := wA 63 (by decide +kernel) (by decide +kernel)
theorem w65 : (Cond.instanceMethod ⟨"GroupRows", "lowerPlace", "([III)I"⟩ : Cond) ∈ wAll := wA 65 (by decide +kernel) (by decide +kernel)
theorem w66 : (Cond.code ⟨"GroupRows", "lowerPlace", "([III)I"⟩ prog_1_method_23_code 7 (some .int) : Cond) ∈ wAll := wA 66 (by decide +kernel) (by decide +kernel)
theorem w67 : (Cond.methodLink "GroupRows" 141 ⟨"GroupRows", "compareKey", "(I[II)I"⟩ : Cond) ∈ wAll := wA 67 (by decide +kernel) (by decide +kernel)
theorem w69 : (Cond.instanceMethod ⟨"GroupRows", "compareKey", "(I[II)I"⟩ : Cond) ∈ wAll := wA 69 (by decide +kernel) (by decide +kernel)
theorem w70 : (Cond.code ⟨"GroupRows", "compareKey", "(I[II)I"⟩ prog_1_method_25_code 7 (some .int) : Cond) ∈ wAll := wA 70 (by decide +kernel) (by decide +kernel)
theorem w71 : (Cond.methodLink "GroupRows" 145 ⟨"java/lang/Integer", "compare", "(II)I"⟩ : Cond) ∈ wAll := wA 71 (by decide +kernel) (by decide +kernel)
theorem w72 : (Cond.static ⟨"java/lang/Integer", "compare", "(II)I"⟩ : Cond) ∈ wAll := wA 72 (by decide +kernel) (by decide +kernel)
theorem w73 : (Cond.code ⟨"java/lang/Integer", "compare", "(II)I"⟩ prog_6_method_40_code 2 (some .int) : Cond) ∈ wAll := wA 73 (by decide +kernel) (by decide +kernel)
theorem w74 : (Cond.methodLink "GroupRows" 95 ⟨"GroupRows", "isKeyAt", "(I[III)Z"⟩ : Cond) ∈ wAll := wA 74 (by decide +kernel) (by decide +kernel)
theorem w76 : (Cond.instanceMethod ⟨"GroupRows", "isKeyAt", "(I[III)Z"⟩ : Cond) ∈ wAll := wA 76 (by decide +kernel) (by decide +kernel)
theorem w77 : (Cond.code ⟨"GroupRows", "isKeyAt", "(I[III)Z"⟩ prog_1_method_24_code 5 (some .boolean) : Cond) ∈ wAll := wA 77 (by decide +kernel) (by decide +kernel)
theorem w78 : (Cond.methodLink "GroupRowsLaw" 49 ⟨"GroupRowsLaw", "begin", "(LGroupRows;II)I"⟩ : Cond) ∈ wAll := wA 78 (by decide +kernel) (by decide +kernel)
theorem w79 : (Cond.static ⟨"GroupRowsLaw", "begin", "(LGroupRows;II)I"⟩ : Cond) ∈ wAll := wA 79 (by decide +kernel) (by decide +kernel)
theorem w80 : (Cond.codeWith ⟨"GroupRowsLaw", "begin", "(LGroupRows;II)I"⟩ method_3_code 4 (some .int) [(0, 6, 9, 13)] : Cond) ∈ wAll := wA 80 (by decide +kernel) (by decide +kernel)
theorem w81 : (Cond.classLink "GroupRowsLaw" 13 "java/lang/IllegalArgumentException" : Cond) ∈ wAll := wA 81 (by decide +kernel) (by decide +kernel)
theorem w82 : (Cond.methodLink "GroupRowsLaw" 7 ⟨"GroupRows", "begin", "(II)V"⟩ : Cond) ∈ wAll := wA 82 (by decide +kernel) (by decide +kernel)
theorem w83 : (Cond.instanceMethod ⟨"GroupRows", "begin", "(II)V"⟩ : Cond) ∈ wAll := wA 83 (by decide +kernel) (by decide +kernel)
theorem w84 : (Cond.selects "GroupRows" ⟨"GroupRows", "begin", "(II)V"⟩ ⟨"GroupRows", "begin", "(II)V"⟩ : Cond) ∈ wAll := wA 84 (by decide +kernel) (by decide +kernel)
theorem w85 : (Cond.code ⟨"GroupRows", "begin", "(II)V"⟩ prog_1_method_2_code 3 none : Cond) ∈ wAll := wA 85 (by decide +kernel) (by decide +kernel)
theorem w86 : (Cond.classLink "GroupRows" 45 "java/lang/IllegalArgumentException" : Cond) ∈ wAll := wA 86 (by decide +kernel) (by decide +kernel)
theorem w87 : (Cond.instantiable "java/lang/IllegalArgumentException" 6 : Cond) ∈ wAll := wA 87 (by decide +kernel) (by decide +kernel)
theorem w95 : (Cond.selects "java/lang/IllegalArgumentException" ⟨"java/lang/Throwable", "fillInStackTrace", "(I)Ljava/lang/Throwable;"⟩ ⟨"java/lang/Throwable", "fillInStackTrace", "(I)Ljava/lang/Throwable;"⟩ : Cond) ∈ wAll := wA 95 (by decide +kernel) (by decide +kernel)
theorem w96 : (Cond.selects "java/lang/IllegalArgumentException" ⟨"java/lang/Throwable", "fillInStackTrace", "()Ljava/lang/Throwable;"⟩ ⟨"java/lang/Throwable", "fillInStackTrace", "()Ljava/lang/Throwable;"⟩ : Cond) ∈ wAll := wA 96 (by decide +kernel) (by decide +kernel)
theorem w97 : (Cond.lays "java/lang/IllegalArgumentException" "java/lang/Throwable" "cause" "Ljava/lang/Throwable;" : Cond) ∈ wAll := wA 97 (by decide +kernel) (by decide +kernel)
theorem w98 : (Cond.lays "java/lang/Throwable" "java/lang/Throwable" "cause" "Ljava/lang/Throwable;" : Cond) ∈ wAll := wA 98 (by decide +kernel) (by decide +kernel)
theorem w99 : (Cond.lays "java/lang/IllegalArgumentException" "java/lang/Throwable" "stackTrace" "[Ljava/lang/StackTraceElement;" : Cond) ∈ wAll := wA 99 (by decide +kernel) (by decide +kernel)
theorem w100 : (Cond.lays "java/lang/Throwable" "java/lang/Throwable" "stackTrace" "[Ljava/lang/StackTraceElement;" : Cond) ∈ wAll := wA 100 (by decide +kernel) (by decide +kernel)
theorem w101 : (Cond.lays "java/lang/IllegalArgumentException" "java/lang/Throwable" "suppressedExceptions" "Ljava/util/List;" : Cond) ∈ wAll := wA 101 (by decide +kernel) (by decide +kernel)
theorem w102 : (Cond.lays "java/lang/Throwable" "java/lang/Throwable" "suppressedExceptions" "Ljava/util/List;" : Cond) ∈ wAll := wA 102 (by decide +kernel) (by decide +kernel)
theorem w103 : (Cond.lays "java/lang/IllegalArgumentException" "java/lang/Throwable" "detailMessage" "Ljava/lang/String;" : Cond) ∈ wAll := wA 103 (by decide +kernel) (by decide +kernel)
theorem w104 : (Cond.lays "java/lang/Throwable" "java/lang/Throwable" "detailMessage" "Ljava/lang/String;" : Cond) ∈ wAll := wA 104 (by decide +kernel) (by decide +kernel)
theorem w105 : (Cond.lays "java/lang/IllegalArgumentException" "java/lang/Throwable" "backtrace" "Ljava/lang/Object;" : Cond) ∈ wAll := wA 105 (by decide +kernel) (by decide +kernel)
theorem w106 : (Cond.lays "java/lang/Throwable" "java/lang/Throwable" "backtrace" "Ljava/lang/Object;" : Cond) ∈ wAll := wA 106 (by decide +kernel) (by decide +kernel)
theorem w107 : (Cond.fieldLink "java/lang/Throwable" 198 "java/lang/Throwable" "backtrace" "Ljava/lang/Object;" : Cond) ∈ wAll := wA 107 (by decide +kernel) (by decide +kernel)
theorem w108 : (Cond.superclass "java/lang/Throwable" "java/lang/Object" : Cond) ∈ wAll := wA 108 (by decide +kernel) (by decide +kernel)
theorem w109 : (Cond.instanceMethod ⟨"java/lang/Throwable", "<init>", "()V"⟩ : Cond) ∈ wAll := wA 109 (by decide +kernel) (by decide +kernel)
theorem w110 : (Cond.code ⟨"java/lang/Throwable", "<init>", "()V"⟩ prog_11_method_1_code 1 none : Cond) ∈ wAll := wA 110 (by decide +kernel) (by decide +kernel)
theorem w111 : (Cond.methodLink "java/lang/Throwable" 1 ⟨"java/lang/Object", "<init>", "()V"⟩ : Cond) ∈ wAll := wA 111 (by decide +kernel) (by decide +kernel)
theorem w112 : (Cond.fieldLink "java/lang/Throwable" 13 "java/lang/Throwable" "UNASSIGNED_STACK" "[Ljava/lang/StackTraceElement;" : Cond) ∈ wAll := wA 112 (by decide +kernel) (by decide +kernel)
theorem w114 : (Cond.fieldLink "java/lang/Throwable" 20 "java/lang/Throwable" "SUPPRESSED_SENTINEL" "Ljava/util/List;" : Cond) ∈ wAll := wA 114 (by decide +kernel) (by decide +kernel)
theorem w116 : (Cond.methodLink "java/lang/Throwable" 27 ⟨"java/lang/Throwable", "fillInStackTrace", "()Ljava/lang/Throwable;"⟩ : Cond) ∈ wAll := wA 116 (by decide +kernel) (by decide +kernel)
theorem w117 : (Cond.instanceMethod ⟨"java/lang/Throwable", "fillInStackTrace", "()Ljava/lang/Throwable;"⟩ : Cond) ∈ wAll := wA 117 (by decide +kernel) (by decide +kernel)
theorem w118 : (Cond.sameMethod "java/lang/Throwable" "java/lang/Throwable" "fillInStackTrace" "()Ljava/lang/Throwable;" : Cond) ∈ wAll := wA 118 (by decide +kernel) (by decide +kernel)
theorem w119 : (Cond.codeSync ⟨"java/lang/Throwable", "fillInStackTrace", "()Ljava/lang/Throwable;"⟩ prog_11_method_18_code 1 (some (.object "java/lang/Throwable")) : Cond) ∈ wAll := wA 119 (by decide +kernel) (by decide +kernel)
theorem w120 : (Cond.methodLink "java/lang/Throwable" 202 ⟨"java/lang/Throwable", "fillInStackTrace", "(I)Ljava/lang/Throwable;"⟩ : Cond) ∈ wAll := wA 120 (by decide +kernel) (by decide +kernel)
theorem w122 : (Cond.instanceMethod ⟨"java/lang/Throwable", "fillInStackTrace", "(I)Ljava/lang/Throwable;"⟩ : Cond) ∈ wAll := wA 122 (by decide +kernel) (by decide +kernel)
theorem w123 : (Cond.instantiable "java/lang/Throwable" 6 : Cond) ∈ wAll := wA 123 (by decide +kernel) (by decide +kernel)
theorem w124 : (Cond.native ⟨"java/lang/Throwable", "fillInStackTrace", "(I)Ljava/lang/Throwable;"⟩ : Cond) ∈ wAll := wA 124 (by decide +kernel) (by decide +kernel)
theorem w126 : (Cond.methodLink "GroupRows" 49 ⟨"java/lang/IllegalArgumentException", "<init>", "(Ljava/lang/String;)V"⟩ : Cond) ∈ wAll := wA 126 (by decide +kernel) (by decide +kernel)
theorem w127 : (Cond.instanceMethod ⟨"java/lang/IllegalArgumentException", "<init>", "(Ljava/lang/String;)V"⟩ : Cond) ∈ wAll := wA 127 (by decide +kernel) (by decide +kernel)
theorem w128 : (Cond.code ⟨"java/lang/IllegalArgumentException", "<init>", "(Ljava/lang/String;)V"⟩ prog_5_method_2_code 2 none : Cond) ∈ wAll := wA 128 (by decide +kernel) (by decide +kernel)
theorem w129 : (Cond.methodLink "java/lang/IllegalArgumentException" 7 ⟨"java/lang/RuntimeException", "<init>", "(Ljava/lang/String;)V"⟩ : Cond) ∈ wAll := wA 129 (by decide +kernel) (by decide +kernel)
theorem w130 : (Cond.instanceMethod ⟨"java/lang/RuntimeException", "<init>", "(Ljava/lang/String;)V"⟩ : Cond) ∈ wAll := wA 130 (by decide +kernel) (by decide +kernel)
theorem w131 : (Cond.code ⟨"java/lang/RuntimeException", "<init>", "(Ljava/lang/String;)V"⟩ prog_8_method_2_code 2 none : Cond) ∈ wAll := wA 131 (by decide +kernel) (by decide +kernel)
theorem w132 : (Cond.methodLink "java/lang/RuntimeException" 7 ⟨"java/lang/Exception", "<init>", "(Ljava/lang/String;)V"⟩ : Cond) ∈ wAll := wA 132 (by decide +kernel) (by decide +kernel)
theorem w133 : (Cond.instanceMethod ⟨"java/lang/Exception", "<init>", "(Ljava/lang/String;)V"⟩ : Cond) ∈ wAll := wA 133 (by decide +kernel) (by decide +kernel)
theorem w134 : (Cond.code ⟨"java/lang/Exception", "<init>", "(Ljava/lang/String;)V"⟩ prog_4_method_2_code 2 none : Cond) ∈ wAll := wA 134 (by decide +kernel) (by decide +kernel)
theorem w135 : (Cond.methodLink "java/lang/Exception" 7 ⟨"java/lang/Throwable", "<init>", "(Ljava/lang/String;)V"⟩ : Cond) ∈ wAll := wA 135 (by decide +kernel) (by decide +kernel)
theorem w136 : (Cond.instanceMethod ⟨"java/lang/Throwable", "<init>", "(Ljava/lang/String;)V"⟩ : Cond) ∈ wAll := wA 136 (by decide +kernel) (by decide +kernel)
theorem w137 : (Cond.code ⟨"java/lang/Throwable", "<init>", "(Ljava/lang/String;)V"⟩ prog_11_method_2_code 2 none : Cond) ∈ wAll := wA 137 (by decide +kernel) (by decide +kernel)
theorem w138 : (Cond.fieldLink "java/lang/Throwable" 198 "java/lang/Throwable" "backtrace" "Ljava/lang/Object;" : Cond) ∈ wAll := wA 138 (by decide +kernel) (by decide +kernel)
theorem w139 : (Cond.fieldLink "java/lang/Throwable" 31 "java/lang/Throwable" "detailMessage" "Ljava/lang/String;" : Cond) ∈ wAll := wA 139 (by decide +kernel) (by decide +kernel)
theorem w140 : (Cond.fieldLink "java/lang/Throwable" 7 "java/lang/Throwable" "cause" "Ljava/lang/Throwable;" : Cond) ∈ wAll := wA 140 (by decide +kernel) (by decide +kernel)
theorem w141 : (Cond.fieldLink "java/lang/Throwable" 17 "java/lang/Throwable" "stackTrace" "[Ljava/lang/StackTraceElement;" : Cond) ∈ wAll := wA 141 (by decide +kernel) (by decide +kernel)
theorem w142 : (Cond.fieldLink "java/lang/Throwable" 24 "java/lang/Throwable" "suppressedExceptions" "Ljava/util/List;" : Cond) ∈ wAll := wA 142 (by decide +kernel) (by decide +kernel)
theorem w143 : (Cond.soleField "java/lang/Throwable" "backtrace" : Cond) ∈ wAll := wA 143 (by decide +kernel) (by decide +kernel)
theorem w144 : (Cond.soleField "java/lang/Throwable" "detailMessage" : Cond) ∈ wAll := wA 144 (by decide +kernel) (by decide +kernel)
theorem w145 : (Cond.soleField "java/lang/Throwable" "cause" : Cond) ∈ wAll := wA 145 (by decide +kernel) (by decide +kernel)
theorem w146 : (Cond.soleField "java/lang/Throwable" "stackTrace" : Cond) ∈ wAll := wA 146 (by decide +kernel) (by decide +kernel)
theorem w147 : (Cond.lays "java/lang/IllegalArgumentException" "java/lang/Throwable" "depth" "I" : Cond) ∈ wAll := wA 147 (by decide +kernel) (by decide +kernel)
theorem w148 : (Cond.soleField "java/lang/Throwable" "depth" : Cond) ∈ wAll := wA 148 (by decide +kernel) (by decide +kernel)
theorem w149 : (Cond.soleField "java/lang/Throwable" "suppressedExceptions" : Cond) ∈ wAll := wA 149 (by decide +kernel) (by decide +kernel)
theorem w150 : (Cond.superclass "java/lang/IllegalArgumentException" "java/lang/RuntimeException" : Cond) ∈ wAll := wA 150 (by decide +kernel) (by decide +kernel)
theorem w151 : (Cond.arrayClass .byte : Cond) ∈ wAll := wA 151 (by decide +kernel) (by decide +kernel)
theorem w153 : (Cond.methodLink "GroupRows" 54 ⟨"java/util/Arrays", "fill", "([II)V"⟩ : Cond) ∈ wAll := wA 153 (by decide +kernel) (by decide +kernel)
theorem w154 : (Cond.static ⟨"java/util/Arrays", "fill", "([II)V"⟩ : Cond) ∈ wAll := wA 154 (by decide +kernel) (by decide +kernel)
theorem w155 : (Cond.code ⟨"java/util/Arrays", "fill", "([II)V"⟩ prog_12_method_103_code 4 none : Cond) ∈ wAll := wA 155 (by decide +kernel) (by decide +kernel)
theorem w156 : (Cond.methodLink "GroupRows" 60 ⟨"java/util/Arrays", "fill", "([JJ)V"⟩ : Cond) ∈ wAll := wA 156 (by decide +kernel) (by decide +kernel)
theorem w157 : (Cond.static ⟨"java/util/Arrays", "fill", "([JJ)V"⟩ : Cond) ∈ wAll := wA 157 (by decide +kernel) (by decide +kernel)
theorem w158 : (Cond.code ⟨"java/util/Arrays", "fill", "([JJ)V"⟩ prog_12_method_101_code 5 none : Cond) ∈ wAll := wA 158 (by decide +kernel) (by decide +kernel)
theorem w159 : (Cond.methodLink "GroupRowsLaw" 59 ⟨"GroupRowsLaw", "key", "(LGroupRows;II[J)I"⟩ : Cond) ∈ wAll := wA 159 (by decide +kernel) (by decide +kernel)
theorem w160 : (Cond.static ⟨"GroupRowsLaw", "key", "(LGroupRows;II[J)I"⟩ : Cond) ∈ wAll := wA 160 (by decide +kernel) (by decide +kernel)
theorem w161 : (Cond.codeWith ⟨"GroupRowsLaw", "key", "(LGroupRows;II[J)I"⟩ method_4_code 5 (some .int) [(0, 10, 13, 13)] : Cond) ∈ wAll := wA 161 (by decide +kernel) (by decide +kernel)
theorem w162 : (Cond.methodLink "GroupRowsLaw" 15 ⟨"GroupRows", "key", "(II)I"⟩ : Cond) ∈ wAll := wA 162 (by decide +kernel) (by decide +kernel)
theorem w163 : (Cond.instanceMethod ⟨"GroupRows", "key", "(II)I"⟩ : Cond) ∈ wAll := wA 163 (by decide +kernel) (by decide +kernel)
theorem w164 : (Cond.selects "GroupRows" ⟨"GroupRows", "key", "(II)I"⟩ ⟨"GroupRows", "key", "(II)I"⟩ : Cond) ∈ wAll := wA 164 (by decide +kernel) (by decide +kernel)
theorem w165 : (Cond.code ⟨"GroupRows", "key", "(II)I"⟩ prog_1_method_3_code 4 (some .int) : Cond) ∈ wAll := wA 165 (by decide +kernel) (by decide +kernel)
theorem w166 : (Cond.methodLink "GroupRows" 63 ⟨"GroupRows", "isPart", "(I)Z"⟩ : Cond) ∈ wAll := wA 166 (by decide +kernel) (by decide +kernel)
theorem w168 : (Cond.instanceMethod ⟨"GroupRows", "isPart", "(I)Z"⟩ : Cond) ∈ wAll := wA 168 (by decide +kernel) (by decide +kernel)
theorem w169 : (Cond.code ⟨"GroupRows", "isPart", "(I)Z"⟩ prog_1_method_13_code 2 (some .boolean) : Cond) ∈ wAll := wA 169 (by decide +kernel) (by decide +kernel)
theorem w171 : (Cond.methodLink "GroupRowsLaw" 65 ⟨"GroupRowsLaw", "amount", "(LGroupRows;IJ[J)I"⟩ : Cond) ∈ wAll := wA 171 (by decide +kernel) (by decide +kernel)
theorem w172 : (Cond.static ⟨"GroupRowsLaw", "amount", "(LGroupRows;IJ[J)I"⟩ : Cond) ∈ wAll := wA 172 (by decide +kernel) (by decide +kernel)
theorem w173 : (Cond.codeWith ⟨"GroupRowsLaw", "amount", "(LGroupRows;IJ[J)I"⟩ method_5_code 6 (some .int) [(0, 10, 13, 13)] : Cond) ∈ wAll := wA 173 (by decide +kernel) (by decide +kernel)
theorem w174 : (Cond.methodLink "GroupRowsLaw" 19 ⟨"GroupRows", "amount", "(IJ)J"⟩ : Cond) ∈ wAll := wA 174 (by decide +kernel) (by decide +kernel)
theorem w175 : (Cond.instanceMethod ⟨"GroupRows", "amount", "(IJ)J"⟩ : Cond) ∈ wAll := wA 175 (by decide +kernel) (by decide +kernel)
theorem w176 : (Cond.selects "GroupRows" ⟨"GroupRows", "amount", "(IJ)J"⟩ ⟨"GroupRows", "amount", "(IJ)J"⟩ : Cond) ∈ wAll := wA 176 (by decide +kernel) (by decide +kernel)
theorem w177 : (Cond.code ⟨"GroupRows", "amount", "(IJ)J"⟩ prog_1_method_4_code 6 (some .long) : Cond) ∈ wAll := wA 177 (by decide +kernel) (by decide +kernel)
theorem w178 : (Cond.methodLink "GroupRows" 69 ⟨"GroupRows", "isMeasure", "(I)Z"⟩ : Cond) ∈ wAll := wA 178 (by decide +kernel) (by decide +kernel)
theorem w180 : (Cond.instanceMethod ⟨"GroupRows", "isMeasure", "(I)Z"⟩ : Cond) ∈ wAll := wA 180 (by decide +kernel) (by decide +kernel)
theorem w181 : (Cond.code ⟨"GroupRows", "isMeasure", "(I)Z"⟩ prog_1_method_14_code 2 (some .boolean) : Cond) ∈ wAll := wA 181 (by decide +kernel) (by decide +kernel)
theorem w183 : (Cond.methodLink "GroupRowsLaw" 69 ⟨"GroupRowsLaw", "add", "(LGroupRows;I[J)I"⟩ : Cond) ∈ wAll := wA 183 (by decide +kernel) (by decide +kernel)
theorem w184 : (Cond.static ⟨"GroupRowsLaw", "add", "(LGroupRows;I[J)I"⟩ : Cond) ∈ wAll := wA 184 (by decide +kernel) (by decide +kernel)
theorem w185 : (Cond.codeWith ⟨"GroupRowsLaw", "add", "(LGroupRows;I[J)I"⟩ method_6_code 4 (some .int) [(0, 9, 12, 13)] : Cond) ∈ wAll := wA 185 (by decide +kernel) (by decide +kernel)
theorem w186 : (Cond.methodLink "GroupRowsLaw" 23 ⟨"GroupRows", "add", "(I)I"⟩ : Cond) ∈ wAll := wA 186 (by decide +kernel) (by decide +kernel)
theorem w187 : (Cond.instanceMethod ⟨"GroupRows", "add", "(I)I"⟩ : Cond) ∈ wAll := wA 187 (by decide +kernel) (by decide +kernel)
theorem w188 : (Cond.selects "GroupRows" ⟨"GroupRows", "add", "(I)I"⟩ ⟨"GroupRows", "add", "(I)I"⟩ : Cond) ∈ wAll := wA 188 (by decide +kernel) (by decide +kernel)
theorem w189 : (Cond.code ⟨"GroupRows", "add", "(I)I"⟩ prog_1_method_5_code 2 (some .int) : Cond) ∈ wAll := wA 189 (by decide +kernel) (by decide +kernel)
theorem w190 : (Cond.constant "GroupRows" 74 100000 : Cond) ∈ wAll := wA 190 (by decide +kernel) (by decide +kernel)
theorem w192 : (Cond.methodLink "GroupRows" 77 ⟨"GroupRows", "takeFact", "(I)Z"⟩ : Cond) ∈ wAll := wA 192 (by decide +kernel) (by decide +kernel)
theorem w194 : (Cond.instanceMethod ⟨"GroupRows", "takeFact", "(I)Z"⟩ : Cond) ∈ wAll := wA 194 (by decide +kernel) (by decide +kernel)
theorem w195 : (Cond.code ⟨"GroupRows", "takeFact", "(I)Z"⟩ prog_1_method_17_code 3 (some .boolean) : Cond) ∈ wAll := wA 195 (by decide +kernel) (by decide +kernel)
theorem w196 : (Cond.methodLink "GroupRows" 106 ⟨"GroupRows", "openRow", "(I)V"⟩ : Cond) ∈ wAll := wA 196 (by decide +kernel) (by decide +kernel)
theorem w198 : (Cond.instanceMethod ⟨"GroupRows", "openRow", "(I)V"⟩ : Cond) ∈ wAll := wA 198 (by decide +kernel) (by decide +kernel)
theorem w199 : (Cond.code ⟨"GroupRows", "openRow", "(I)V"⟩ prog_1_method_18_code 5 none : Cond) ∈ wAll := wA 199 (by decide +kernel) (by decide +kernel)
theorem w200 : (Cond.methodLink "GroupRows" 113 ⟨"GroupRows", "insertSlot", "(III)V"⟩ : Cond) ∈ wAll := wA 200 (by decide +kernel) (by decide +kernel)
theorem w202 : (Cond.instanceMethod ⟨"GroupRows", "insertSlot", "(III)V"⟩ : Cond) ∈ wAll := wA 202 (by decide +kernel) (by decide +kernel)
theorem w203 : (Cond.code ⟨"GroupRows", "insertSlot", "(III)V"⟩ prog_1_method_22_code 4 none : Cond) ∈ wAll := wA 203 (by decide +kernel) (by decide +kernel)
theorem w204 : (Cond.methodLink "GroupRows" 117 ⟨"java/lang/System", "arraycopy", "(Ljava/lang/Object;ILjava/lang/Object;II)V"⟩ : Cond) ∈ wAll := wA 204 (by decide +kernel) (by decide +kernel)
theorem w205 : (Cond.static ⟨"java/lang/System", "arraycopy", "(Ljava/lang/Object;ILjava/lang/Object;II)V"⟩ : Cond) ∈ wAll := wA 205 (by decide +kernel) (by decide +kernel)
theorem w206 : (Cond.native ⟨"java/lang/System", "arraycopy", "(Ljava/lang/Object;ILjava/lang/Object;II)V"⟩ : Cond) ∈ wAll := wA 206 (by decide +kernel) (by decide +kernel)
theorem w207 : (Cond.constantLong "GroupRows" 125 9223372036854775807 : Cond) ∈ wAll := wA 207 (by decide +kernel) (by decide +kernel)
theorem w208 : (Cond.constantLong "GroupRows" 127 (-9223372036854775808) : Cond) ∈ wAll := wA 208 (by decide +kernel) (by decide +kernel)
theorem w209 : (Cond.methodLink "GroupRows" 110 ⟨"GroupRows", "joinFact", "(II)V"⟩ : Cond) ∈ wAll := wA 209 (by decide +kernel) (by decide +kernel)
theorem w211 : (Cond.instanceMethod ⟨"GroupRows", "joinFact", "(II)V"⟩ : Cond) ∈ wAll := wA 211 (by decide +kernel) (by decide +kernel)
theorem w212 : (Cond.code ⟨"GroupRows", "joinFact", "(II)V"⟩ prog_1_method_19_code 7 none : Cond) ∈ wAll := wA 212 (by decide +kernel) (by decide +kernel)
theorem w213 : (Cond.methodLink "GroupRows" 129 ⟨"java/lang/Math", "min", "(JJ)J"⟩ : Cond) ∈ wAll := wA 213 (by decide +kernel) (by decide +kernel)
theorem w214 : (Cond.static ⟨"java/lang/Math", "min", "(JJ)J"⟩ : Cond) ∈ wAll := wA 214 (by decide +kernel) (by decide +kernel)
theorem w215 : (Cond.code ⟨"java/lang/Math", "min", "(JJ)J"⟩ prog_7_method_70_code 4 (some .long) : Cond) ∈ wAll := wA 215 (by decide +kernel) (by decide +kernel)
theorem w216 : (Cond.methodLink "GroupRows" 135 ⟨"java/lang/Math", "max", "(JJ)J"⟩ : Cond) ∈ wAll := wA 216 (by decide +kernel) (by decide +kernel)
theorem w217 : (Cond.static ⟨"java/lang/Math", "max", "(JJ)J"⟩ : Cond) ∈ wAll := wA 217 (by decide +kernel) (by decide +kernel)
theorem w218 : (Cond.code ⟨"java/lang/Math", "max", "(JJ)J"⟩ prog_7_method_66_code 4 (some .long) : Cond) ∈ wAll := wA 218 (by decide +kernel) (by decide +kernel)
theorem w219 : (Cond.methodLink "GroupRowsLaw" 73 ⟨"GroupRowsLaw", "spread", "(LGroupRows;III[J)I"⟩ : Cond) ∈ wAll := wA 219 (by decide +kernel) (by decide +kernel)
theorem w220 : (Cond.static ⟨"GroupRowsLaw", "spread", "(LGroupRows;III[J)I"⟩ : Cond) ∈ wAll := wA 220 (by decide +kernel) (by decide +kernel)
theorem w221 : (Cond.codeWith ⟨"GroupRowsLaw", "spread", "(LGroupRows;III[J)I"⟩ method_7_code 6 (some .int) [(0, 12, 15, 13)] : Cond) ∈ wAll := wA 221 (by decide +kernel) (by decide +kernel)
theorem w222 : (Cond.methodLink "GroupRowsLaw" 27 ⟨"GroupRows", "spread", "(III)I"⟩ : Cond) ∈ wAll := wA 222 (by decide +kernel) (by decide +kernel)
theorem w223 : (Cond.instanceMethod ⟨"GroupRows", "spread", "(III)I"⟩ : Cond) ∈ wAll := wA 223 (by decide +kernel) (by decide +kernel)
theorem w224 : (Cond.selects "GroupRows" ⟨"GroupRows", "spread", "(III)I"⟩ ⟨"GroupRows", "spread", "(III)I"⟩ : Cond) ∈ wAll := wA 224 (by decide +kernel) (by decide +kernel)
theorem w225 : (Cond.code ⟨"GroupRows", "spread", "(III)I"⟩ prog_1_method_6_code 5 (some .int) : Cond) ∈ wAll := wA 225 (by decide +kernel) (by decide +kernel)
theorem w227 : (Cond.methodLink "GroupRows" 82 ⟨"GroupRows", "stepFact", "(II)V"⟩ : Cond) ∈ wAll := wA 227 (by decide +kernel) (by decide +kernel)
theorem w229 : (Cond.instanceMethod ⟨"GroupRows", "stepFact", "(II)V"⟩ : Cond) ∈ wAll := wA 229 (by decide +kernel) (by decide +kernel)
theorem w230 : (Cond.code ⟨"GroupRows", "stepFact", "(II)V"⟩ prog_1_method_16_code 4 none : Cond) ∈ wAll := wA 230 (by decide +kernel) (by decide +kernel)
theorem w231 : (Cond.methodLink "GroupRowsLaw" 77 ⟨"GroupRowsLaw", "roll", "(LGroupRows;I[J)I"⟩ : Cond) ∈ wAll := wA 231 (by decide +kernel) (by decide +kernel)
theorem w232 : (Cond.static ⟨"GroupRowsLaw", "roll", "(LGroupRows;I[J)I"⟩ : Cond) ∈ wAll := wA 232 (by decide +kernel) (by decide +kernel)
theorem w233 : (Cond.codeWith ⟨"GroupRowsLaw", "roll", "(LGroupRows;I[J)I"⟩ method_8_code 4 (some .int) [(0, 9, 12, 13)] : Cond) ∈ wAll := wA 233 (by decide +kernel) (by decide +kernel)
theorem w234 : (Cond.methodLink "GroupRowsLaw" 31 ⟨"GroupRows", "roll", "(I)I"⟩ : Cond) ∈ wAll := wA 234 (by decide +kernel) (by decide +kernel)
theorem w235 : (Cond.instanceMethod ⟨"GroupRows", "roll", "(I)I"⟩ : Cond) ∈ wAll := wA 235 (by decide +kernel) (by decide +kernel)
theorem w236 : (Cond.selects "GroupRows" ⟨"GroupRows", "roll", "(I)I"⟩ ⟨"GroupRows", "roll", "(I)I"⟩ : Cond) ∈ wAll := wA 236 (by decide +kernel) (by decide +kernel)
theorem w237 : (Cond.code ⟨"GroupRows", "roll", "(I)I"⟩ prog_1_method_7_code 3 (some .int) : Cond) ∈ wAll := wA 237 (by decide +kernel) (by decide +kernel)
theorem w238 : (Cond.constant "GroupRows" 86 2147483647 : Cond) ∈ wAll := wA 238 (by decide +kernel) (by decide +kernel)
theorem w239 : (Cond.methodLink "GroupRows" 87 ⟨"GroupRows", "regroup", "()I"⟩ : Cond) ∈ wAll := wA 239 (by decide +kernel) (by decide +kernel)
theorem w241 : (Cond.instanceMethod ⟨"GroupRows", "regroup", "()I"⟩ : Cond) ∈ wAll := wA 241 (by decide +kernel) (by decide +kernel)
theorem w242 : (Cond.code ⟨"GroupRows", "regroup", "()I"⟩ prog_1_method_21_code 6 (some .int) : Cond) ∈ wAll := wA 242 (by decide +kernel) (by decide +kernel)
theorem w243 : (Cond.methodLink "GroupRows" 138 ⟨"GroupRows", "joinRow", "(II)V"⟩ : Cond) ∈ wAll := wA 243 (by decide +kernel) (by decide +kernel)
theorem w245 : (Cond.instanceMethod ⟨"GroupRows", "joinRow", "(II)V"⟩ : Cond) ∈ wAll := wA 245 (by decide +kernel) (by decide +kernel)
theorem w246 : (Cond.code ⟨"GroupRows", "joinRow", "(II)V"⟩ prog_1_method_20_code 6 none : Cond) ∈ wAll := wA 246 (by decide +kernel) (by decide +kernel)
theorem w247 : (Cond.methodLink "GroupRowsLaw" 88 ⟨"GroupRowsLaw", "keyAt", "(LGroupRows;II[J)I"⟩ : Cond) ∈ wAll := wA 247 (by decide +kernel) (by decide +kernel)
theorem w248 : (Cond.static ⟨"GroupRowsLaw", "keyAt", "(LGroupRows;II[J)I"⟩ : Cond) ∈ wAll := wA 248 (by decide +kernel) (by decide +kernel)
theorem w249 : (Cond.codeWith ⟨"GroupRowsLaw", "keyAt", "(LGroupRows;II[J)I"⟩ method_9_code 5 (some .int) [(0, 10, 13, 13)] : Cond) ∈ wAll := wA 249 (by decide +kernel) (by decide +kernel)
theorem w250 : (Cond.methodLink "GroupRowsLaw" 34 ⟨"GroupRows", "keyAt", "(II)I"⟩ : Cond) ∈ wAll := wA 250 (by decide +kernel) (by decide +kernel)
theorem w251 : (Cond.instanceMethod ⟨"GroupRows", "keyAt", "(II)I"⟩ : Cond) ∈ wAll := wA 251 (by decide +kernel) (by decide +kernel)
theorem w252 : (Cond.selects "GroupRows" ⟨"GroupRows", "keyAt", "(II)I"⟩ ⟨"GroupRows", "keyAt", "(II)I"⟩ : Cond) ∈ wAll := wA 252 (by decide +kernel) (by decide +kernel)
theorem w253 : (Cond.code ⟨"GroupRows", "keyAt", "(II)I"⟩ prog_1_method_10_code 3 (some .int) : Cond) ∈ wAll := wA 253 (by decide +kernel) (by decide +kernel)
theorem w254 : (Cond.methodLink "GroupRows" 99 ⟨"GroupRows", "isPlace", "(I)Z"⟩ : Cond) ∈ wAll := wA 254 (by decide +kernel) (by decide +kernel)
theorem w256 : (Cond.instanceMethod ⟨"GroupRows", "isPlace", "(I)Z"⟩ : Cond) ∈ wAll := wA 256 (by decide +kernel) (by decide +kernel)
theorem w257 : (Cond.code ⟨"GroupRows", "isPlace", "(I)Z"⟩ prog_1_method_15_code 2 (some .boolean) : Cond) ∈ wAll := wA 257 (by decide +kernel) (by decide +kernel)
theorem w259 : (Cond.methodLink "GroupRowsLaw" 91 ⟨"GroupRowsLaw", "count", "(LGroupRows;I[J)I"⟩ : Cond) ∈ wAll := wA 259 (by decide +kernel) (by decide +kernel)
theorem w260 : (Cond.static ⟨"GroupRowsLaw", "count", "(LGroupRows;I[J)I"⟩ : Cond) ∈ wAll := wA 260 (by decide +kernel) (by decide +kernel)
theorem w261 : (Cond.codeWith ⟨"GroupRowsLaw", "count", "(LGroupRows;I[J)I"⟩ method_10_code 4 (some .int) [(0, 8, 11, 13)] : Cond) ∈ wAll := wA 261 (by decide +kernel) (by decide +kernel)
theorem w262 : (Cond.methodLink "GroupRowsLaw" 37 ⟨"GroupRows", "count", "(I)J"⟩ : Cond) ∈ wAll := wA 262 (by decide +kernel) (by decide +kernel)
theorem w263 : (Cond.instanceMethod ⟨"GroupRows", "count", "(I)J"⟩ : Cond) ∈ wAll := wA 263 (by decide +kernel) (by decide +kernel)
theorem w264 : (Cond.selects "GroupRows" ⟨"GroupRows", "count", "(I)J"⟩ ⟨"GroupRows", "count", "(I)J"⟩ : Cond) ∈ wAll := wA 264 (by decide +kernel) (by decide +kernel)
theorem w265 : (Cond.code ⟨"GroupRows", "count", "(I)J"⟩ prog_1_method_11_code 2 (some .long) : Cond) ∈ wAll := wA 265 (by decide +kernel) (by decide +kernel)
theorem w266 : (Cond.methodLink "GroupRowsLaw" 94 ⟨"GroupRowsLaw", "told", "(LGroupRows;III[J)I"⟩ : Cond) ∈ wAll := wA 266 (by decide +kernel) (by decide +kernel)
theorem w267 : (Cond.static ⟨"GroupRowsLaw", "told", "(LGroupRows;III[J)I"⟩ : Cond) ∈ wAll := wA 267 (by decide +kernel) (by decide +kernel)
theorem w268 : (Cond.codeWith ⟨"GroupRowsLaw", "told", "(LGroupRows;III[J)I"⟩ method_11_code 6 (some .int) [(0, 11, 14, 13)] : Cond) ∈ wAll := wA 268 (by decide +kernel) (by decide +kernel)
theorem w269 : (Cond.methodLink "GroupRowsLaw" 41 ⟨"GroupRows", "told", "(III)J"⟩ : Cond) ∈ wAll := wA 269 (by decide +kernel) (by decide +kernel)
theorem w270 : (Cond.instanceMethod ⟨"GroupRows", "told", "(III)J"⟩ : Cond) ∈ wAll := wA 270 (by decide +kernel) (by decide +kernel)
theorem w271 : (Cond.selects "GroupRows" ⟨"GroupRows", "told", "(III)J"⟩ ⟨"GroupRows", "told", "(III)J"⟩ : Cond) ∈ wAll := wA 271 (by decide +kernel) (by decide +kernel)
theorem w272 : (Cond.code ⟨"GroupRows", "told", "(III)J"⟩ prog_1_method_12_code 5 (some .long) : Cond) ∈ wAll := wA 272 (by decide +kernel) (by decide +kernel)
theorem w274 : (Cond.classLink "GroupRowsLaw" 46 "GroupRowsModel" : Cond) ∈ wAll := wA 274 (by decide +kernel) (by decide +kernel)
theorem w275 : (Cond.instantiable "GroupRowsModel" 11 : Cond) ∈ wAll := wA 275 (by decide +kernel) (by decide +kernel)
theorem w276 : (Cond.methodLink "GroupRowsLaw" 48 ⟨"GroupRowsModel", "<init>", "()V"⟩ : Cond) ∈ wAll := wA 276 (by decide +kernel) (by decide +kernel)
theorem w277 : (Cond.instanceMethod ⟨"GroupRowsModel", "<init>", "()V"⟩ : Cond) ∈ wAll := wA 277 (by decide +kernel) (by decide +kernel)
theorem w278 : (Cond.code ⟨"GroupRowsModel", "<init>", "()V"⟩ prog_3_method_1_code 1 none : Cond) ∈ wAll := wA 278 (by decide +kernel) (by decide +kernel)
theorem w279 : (Cond.methodLink "GroupRowsModel" 1 ⟨"java/lang/Object", "<init>", "()V"⟩ : Cond) ∈ wAll := wA 279 (by decide +kernel) (by decide +kernel)
theorem w280 : (Cond.fieldLink "GroupRowsModel" 36 "GroupRowsModel" "code" "I" : Cond) ∈ wAll := wA 280 (by decide +kernel) (by decide +kernel)
theorem w281 : (Cond.fieldLink "GroupRowsModel" 39 "GroupRowsModel" "width" "I" : Cond) ∈ wAll := wA 281 (by decide +kernel) (by decide +kernel)
theorem w282 : (Cond.fieldLink "GroupRowsModel" 7 "GroupRowsModel" "measures" "I" : Cond) ∈ wAll := wA 282 (by decide +kernel) (by decide +kernel)
theorem w283 : (Cond.fieldLink "GroupRowsModel" 42 "GroupRowsModel" "rows" "I" : Cond) ∈ wAll := wA 283 (by decide +kernel) (by decide +kernel)
theorem w284 : (Cond.fieldLink "GroupRowsModel" 13 "GroupRowsModel" "keys" "[I" : Cond) ∈ wAll := wA 284 (by decide +kernel) (by decide +kernel)
theorem w285 : (Cond.fieldLink "GroupRowsModel" 17 "GroupRowsModel" "counts" "[J" : Cond) ∈ wAll := wA 285 (by decide +kernel) (by decide +kernel)
theorem w286 : (Cond.fieldLink "GroupRowsModel" 21 "GroupRowsModel" "sums" "[J" : Cond) ∈ wAll := wA 286 (by decide +kernel) (by decide +kernel)
theorem w287 : (Cond.fieldLink "GroupRowsModel" 24 "GroupRowsModel" "leasts" "[J" : Cond) ∈ wAll := wA 287 (by decide +kernel) (by decide +kernel)
theorem w288 : (Cond.fieldLink "GroupRowsModel" 27 "GroupRowsModel" "greatests" "[J" : Cond) ∈ wAll := wA 288 (by decide +kernel) (by decide +kernel)
theorem w289 : (Cond.fieldLink "GroupRowsModel" 30 "GroupRowsModel" "key" "[I" : Cond) ∈ wAll := wA 289 (by decide +kernel) (by decide +kernel)
theorem w290 : (Cond.fieldLink "GroupRowsModel" 33 "GroupRowsModel" "amount" "[J" : Cond) ∈ wAll := wA 290 (by decide +kernel) (by decide +kernel)
theorem w291 : (Cond.lays "GroupRowsModel" "GroupRowsModel" "code" "I" : Cond) ∈ wAll := wA 291 (by decide +kernel) (by decide +kernel)
theorem w292 : (Cond.soleField "GroupRowsModel" "code" : Cond) ∈ wAll := wA 292 (by decide +kernel) (by decide +kernel)
theorem w293 : (Cond.lays "GroupRowsModel" "GroupRowsModel" "width" "I" : Cond) ∈ wAll := wA 293 (by decide +kernel) (by decide +kernel)
theorem w294 : (Cond.soleField "GroupRowsModel" "width" : Cond) ∈ wAll := wA 294 (by decide +kernel) (by decide +kernel)
theorem w295 : (Cond.lays "GroupRowsModel" "GroupRowsModel" "measures" "I" : Cond) ∈ wAll := wA 295 (by decide +kernel) (by decide +kernel)
theorem w296 : (Cond.soleField "GroupRowsModel" "measures" : Cond) ∈ wAll := wA 296 (by decide +kernel) (by decide +kernel)
theorem w297 : (Cond.lays "GroupRowsModel" "GroupRowsModel" "rows" "I" : Cond) ∈ wAll := wA 297 (by decide +kernel) (by decide +kernel)
theorem w298 : (Cond.soleField "GroupRowsModel" "rows" : Cond) ∈ wAll := wA 298 (by decide +kernel) (by decide +kernel)
theorem w299 : (Cond.laysFinal "GroupRowsModel" "GroupRowsModel" "keys" "[I" : Cond) ∈ wAll := wA 299 (by decide +kernel) (by decide +kernel)
theorem w300 : (Cond.soleField "GroupRowsModel" "keys" : Cond) ∈ wAll := wA 300 (by decide +kernel) (by decide +kernel)
theorem w301 : (Cond.laysFinal "GroupRowsModel" "GroupRowsModel" "counts" "[J" : Cond) ∈ wAll := wA 301 (by decide +kernel) (by decide +kernel)
theorem w302 : (Cond.soleField "GroupRowsModel" "counts" : Cond) ∈ wAll := wA 302 (by decide +kernel) (by decide +kernel)
theorem w303 : (Cond.laysFinal "GroupRowsModel" "GroupRowsModel" "sums" "[J" : Cond) ∈ wAll := wA 303 (by decide +kernel) (by decide +kernel)
theorem w304 : (Cond.soleField "GroupRowsModel" "sums" : Cond) ∈ wAll := wA 304 (by decide +kernel) (by decide +kernel)
theorem w305 : (Cond.laysFinal "GroupRowsModel" "GroupRowsModel" "leasts" "[J" : Cond) ∈ wAll := wA 305 (by decide +kernel) (by decide +kernel)
theorem w306 : (Cond.soleField "GroupRowsModel" "leasts" : Cond) ∈ wAll := wA 306 (by decide +kernel) (by decide +kernel)
theorem w307 : (Cond.laysFinal "GroupRowsModel" "GroupRowsModel" "greatests" "[J" : Cond) ∈ wAll := wA 307 (by decide +kernel) (by decide +kernel)
theorem w308 : (Cond.soleField "GroupRowsModel" "greatests" : Cond) ∈ wAll := wA 308 (by decide +kernel) (by decide +kernel)
theorem w309 : (Cond.laysFinal "GroupRowsModel" "GroupRowsModel" "key" "[I" : Cond) ∈ wAll := wA 309 (by decide +kernel) (by decide +kernel)
theorem w310 : (Cond.soleField "GroupRowsModel" "key" : Cond) ∈ wAll := wA 310 (by decide +kernel) (by decide +kernel)
theorem w311 : (Cond.laysFinal "GroupRowsModel" "GroupRowsModel" "amount" "[J" : Cond) ∈ wAll := wA 311 (by decide +kernel) (by decide +kernel)
theorem w312 : (Cond.soleField "GroupRowsModel" "amount" : Cond) ∈ wAll := wA 312 (by decide +kernel) (by decide +kernel)
theorem w313 : (Cond.superclass "GroupRowsModel" "java/lang/Object" : Cond) ∈ wAll := wA 313 (by decide +kernel) (by decide +kernel)
theorem w314 : (Cond.methodLink "GroupRowsLaw" 55 ⟨"GroupRowsModel", "thrown", "()I"⟩ : Cond) ∈ wAll := wA 314 (by decide +kernel) (by decide +kernel)
theorem w315 : (Cond.instanceMethod ⟨"GroupRowsModel", "thrown", "()I"⟩ : Cond) ∈ wAll := wA 315 (by decide +kernel) (by decide +kernel)
theorem w316 : (Cond.selects "GroupRowsModel" ⟨"GroupRowsModel", "thrown", "()I"⟩ ⟨"GroupRowsModel", "thrown", "()I"⟩ : Cond) ∈ wAll := wA 316 (by decide +kernel) (by decide +kernel)
theorem w317 : (Cond.code ⟨"GroupRowsModel", "thrown", "()I"⟩ prog_3_method_2_code 1 (some .int) : Cond) ∈ wAll := wA 317 (by decide +kernel) (by decide +kernel)
theorem w318 : (Cond.methodLink "GroupRowsLaw" 54 ⟨"GroupRowsModel", "begin", "(II)V"⟩ : Cond) ∈ wAll := wA 318 (by decide +kernel) (by decide +kernel)
theorem w319 : (Cond.instanceMethod ⟨"GroupRowsModel", "begin", "(II)V"⟩ : Cond) ∈ wAll := wA 319 (by decide +kernel) (by decide +kernel)
theorem w320 : (Cond.selects "GroupRowsModel" ⟨"GroupRowsModel", "begin", "(II)V"⟩ ⟨"GroupRowsModel", "begin", "(II)V"⟩ : Cond) ∈ wAll := wA 320 (by decide +kernel) (by decide +kernel)
theorem w321 : (Cond.code ⟨"GroupRowsModel", "begin", "(II)V"⟩ prog_3_method_3_code 4 none : Cond) ∈ wAll := wA 321 (by decide +kernel) (by decide +kernel)
theorem w322 : (Cond.methodLink "GroupRowsLaw" 62 ⟨"GroupRowsModel", "key", "(II)I"⟩ : Cond) ∈ wAll := wA 322 (by decide +kernel) (by decide +kernel)
theorem w323 : (Cond.instanceMethod ⟨"GroupRowsModel", "key", "(II)I"⟩ : Cond) ∈ wAll := wA 323 (by decide +kernel) (by decide +kernel)
theorem w324 : (Cond.selects "GroupRowsModel" ⟨"GroupRowsModel", "key", "(II)I"⟩ ⟨"GroupRowsModel", "key", "(II)I"⟩ : Cond) ∈ wAll := wA 324 (by decide +kernel) (by decide +kernel)
theorem w325 : (Cond.code ⟨"GroupRowsModel", "key", "(II)I"⟩ prog_3_method_4_code 4 (some .int) : Cond) ∈ wAll := wA 325 (by decide +kernel) (by decide +kernel)
theorem w326 : (Cond.methodLink "GroupRowsLaw" 68 ⟨"GroupRowsModel", "amount", "(IJ)J"⟩ : Cond) ∈ wAll := wA 326 (by decide +kernel) (by decide +kernel)
theorem w327 : (Cond.instanceMethod ⟨"GroupRowsModel", "amount", "(IJ)J"⟩ : Cond) ∈ wAll := wA 327 (by decide +kernel) (by decide +kernel)
theorem w328 : (Cond.selects "GroupRowsModel" ⟨"GroupRowsModel", "amount", "(IJ)J"⟩ ⟨"GroupRowsModel", "amount", "(IJ)J"⟩ : Cond) ∈ wAll := wA 328 (by decide +kernel) (by decide +kernel)
theorem w329 : (Cond.code ⟨"GroupRowsModel", "amount", "(IJ)J"⟩ prog_3_method_5_code 6 (some .long) : Cond) ∈ wAll := wA 329 (by decide +kernel) (by decide +kernel)
theorem w330 : (Cond.methodLink "GroupRowsLaw" 72 ⟨"GroupRowsModel", "add", "(I)I"⟩ : Cond) ∈ wAll := wA 330 (by decide +kernel) (by decide +kernel)
theorem w331 : (Cond.instanceMethod ⟨"GroupRowsModel", "add", "(I)I"⟩ : Cond) ∈ wAll := wA 331 (by decide +kernel) (by decide +kernel)
theorem w332 : (Cond.selects "GroupRowsModel" ⟨"GroupRowsModel", "add", "(I)I"⟩ ⟨"GroupRowsModel", "add", "(I)I"⟩ : Cond) ∈ wAll := wA 332 (by decide +kernel) (by decide +kernel)
theorem w333 : (Cond.code ⟨"GroupRowsModel", "add", "(I)I"⟩ prog_3_method_10_code 2 (some .int) : Cond) ∈ wAll := wA 333 (by decide +kernel) (by decide +kernel)
theorem w334 : (Cond.constant "GroupRowsModel" 57 100000 : Cond) ∈ wAll := wA 334 (by decide +kernel) (by decide +kernel)
theorem w335 : (Cond.methodLink "GroupRowsModel" 58 ⟨"GroupRowsModel", "comes", "(I)Z"⟩ : Cond) ∈ wAll := wA 335 (by decide +kernel) (by decide +kernel)
theorem w337 : (Cond.instanceMethod ⟨"GroupRowsModel", "comes", "(I)Z"⟩ : Cond) ∈ wAll := wA 337 (by decide +kernel) (by decide +kernel)
theorem w338 : (Cond.code ⟨"GroupRowsModel", "comes", "(I)Z"⟩ prog_3_method_9_code 7 (some .boolean) : Cond) ∈ wAll := wA 338 (by decide +kernel) (by decide +kernel)
theorem w339 : (Cond.methodLink "GroupRowsModel" 49 ⟨"GroupRowsModel", "before", "()I"⟩ : Cond) ∈ wAll := wA 339 (by decide +kernel) (by decide +kernel)
theorem w341 : (Cond.instanceMethod ⟨"GroupRowsModel", "before", "()I"⟩ : Cond) ∈ wAll := wA 341 (by decide +kernel) (by decide +kernel)
theorem w342 : (Cond.code ⟨"GroupRowsModel", "before", "()I"⟩ prog_3_method_7_code 2 (some .int) : Cond) ∈ wAll := wA 342 (by decide +kernel) (by decide +kernel)
theorem w343 : (Cond.methodLink "GroupRowsModel" 45 ⟨"GroupRowsModel", "against", "(I)I"⟩ : Cond) ∈ wAll := wA 343 (by decide +kernel) (by decide +kernel)
theorem w345 : (Cond.instanceMethod ⟨"GroupRowsModel", "against", "(I)I"⟩ : Cond) ∈ wAll := wA 345 (by decide +kernel) (by decide +kernel)
theorem w346 : (Cond.code ⟨"GroupRowsModel", "against", "(I)I"⟩ prog_3_method_6_code 3 (some .int) : Cond) ∈ wAll := wA 346 (by decide +kernel) (by decide +kernel)
theorem w347 : (Cond.methodLink "GroupRowsModel" 53 ⟨"GroupRowsModel", "copy", "(II)V"⟩ : Cond) ∈ wAll := wA 347 (by decide +kernel) (by decide +kernel)
theorem w349 : (Cond.instanceMethod ⟨"GroupRowsModel", "copy", "(II)V"⟩ : Cond) ∈ wAll := wA 349 (by decide +kernel) (by decide +kernel)
theorem w350 : (Cond.code ⟨"GroupRowsModel", "copy", "(II)V"⟩ prog_3_method_8_code 4 none : Cond) ∈ wAll := wA 350 (by decide +kernel) (by decide +kernel)
theorem w351 : (Cond.methodLink "GroupRowsLaw" 76 ⟨"GroupRowsModel", "spread", "(III)I"⟩ : Cond) ∈ wAll := wA 351 (by decide +kernel) (by decide +kernel)
theorem w352 : (Cond.instanceMethod ⟨"GroupRowsModel", "spread", "(III)I"⟩ : Cond) ∈ wAll := wA 352 (by decide +kernel) (by decide +kernel)
theorem w353 : (Cond.selects "GroupRowsModel" ⟨"GroupRowsModel", "spread", "(III)I"⟩ ⟨"GroupRowsModel", "spread", "(III)I"⟩ : Cond) ∈ wAll := wA 353 (by decide +kernel) (by decide +kernel)
theorem w354 : (Cond.code ⟨"GroupRowsModel", "spread", "(III)I"⟩ prog_3_method_11_code 6 (some .int) : Cond) ∈ wAll := wA 354 (by decide +kernel) (by decide +kernel)
theorem w355 : (Cond.methodLink "GroupRowsLaw" 79 ⟨"GroupRowsModel", "roll", "(I)I"⟩ : Cond) ∈ wAll := wA 355 (by decide +kernel) (by decide +kernel)
theorem w356 : (Cond.instanceMethod ⟨"GroupRowsModel", "roll", "(I)I"⟩ : Cond) ∈ wAll := wA 356 (by decide +kernel) (by decide +kernel)
theorem w357 : (Cond.selects "GroupRowsModel" ⟨"GroupRowsModel", "roll", "(I)I"⟩ ⟨"GroupRowsModel", "roll", "(I)I"⟩ : Cond) ∈ wAll := wA 357 (by decide +kernel) (by decide +kernel)
theorem w358 : (Cond.code ⟨"GroupRowsModel", "roll", "(I)I"⟩ prog_3_method_14_code 6 (some .int) : Cond) ∈ wAll := wA 358 (by decide +kernel) (by decide +kernel)
theorem w359 : (Cond.constant "GroupRowsModel" 62 2147483647 : Cond) ∈ wAll := wA 359 (by decide +kernel) (by decide +kernel)
theorem w360 : (Cond.methodLink "GroupRowsModel" 63 ⟨"GroupRowsModel", "compared", "(II)I"⟩ : Cond) ∈ wAll := wA 360 (by decide +kernel) (by decide +kernel)
theorem w362 : (Cond.instanceMethod ⟨"GroupRowsModel", "compared", "(II)I"⟩ : Cond) ∈ wAll := wA 362 (by decide +kernel) (by decide +kernel)
theorem w363 : (Cond.code ⟨"GroupRowsModel", "compared", "(II)I"⟩ prog_3_method_13_code 4 (some .int) : Cond) ∈ wAll := wA 363 (by decide +kernel) (by decide +kernel)
theorem w364 : (Cond.methodLink "GroupRowsModel" 67 ⟨"GroupRowsModel", "join", "(II)V"⟩ : Cond) ∈ wAll := wA 364 (by decide +kernel) (by decide +kernel)
theorem w366 : (Cond.instanceMethod ⟨"GroupRowsModel", "join", "(II)V"⟩ : Cond) ∈ wAll := wA 366 (by decide +kernel) (by decide +kernel)
theorem w367 : (Cond.code ⟨"GroupRowsModel", "join", "(II)V"⟩ prog_3_method_12_code 6 none : Cond) ∈ wAll := wA 367 (by decide +kernel) (by decide +kernel)
theorem w368 : (Cond.methodLink "GroupRowsModel" 70 ⟨"GroupRowsModel", "sort", "()V"⟩ : Cond) ∈ wAll := wA 368 (by decide +kernel) (by decide +kernel)
theorem w370 : (Cond.instanceMethod ⟨"GroupRowsModel", "sort", "()V"⟩ : Cond) ∈ wAll := wA 370 (by decide +kernel) (by decide +kernel)
theorem w371 : (Cond.code ⟨"GroupRowsModel", "sort", "()V"⟩ prog_3_method_16_code 4 none : Cond) ∈ wAll := wA 371 (by decide +kernel) (by decide +kernel)
theorem w372 : (Cond.methodLink "GroupRowsModel" 73 ⟨"GroupRowsModel", "swap", "(II)V"⟩ : Cond) ∈ wAll := wA 372 (by decide +kernel) (by decide +kernel)
theorem w374 : (Cond.instanceMethod ⟨"GroupRowsModel", "swap", "(II)V"⟩ : Cond) ∈ wAll := wA 374 (by decide +kernel) (by decide +kernel)
theorem w375 : (Cond.code ⟨"GroupRowsModel", "swap", "(II)V"⟩ prog_3_method_15_code 15 none : Cond) ∈ wAll := wA 375 (by decide +kernel) (by decide +kernel)
theorem w376 : (Cond.methodLink "GroupRowsLaw" 83 ⟨"GroupRowsModel", "rows", "()I"⟩ : Cond) ∈ wAll := wA 376 (by decide +kernel) (by decide +kernel)
theorem w377 : (Cond.instanceMethod ⟨"GroupRowsModel", "rows", "()I"⟩ : Cond) ∈ wAll := wA 377 (by decide +kernel) (by decide +kernel)
theorem w378 : (Cond.selects "GroupRowsModel" ⟨"GroupRowsModel", "rows", "()I"⟩ ⟨"GroupRowsModel", "rows", "()I"⟩ : Cond) ∈ wAll := wA 378 (by decide +kernel) (by decide +kernel)
theorem w379 : (Cond.code ⟨"GroupRowsModel", "rows", "()I"⟩ prog_3_method_17_code 1 (some .int) : Cond) ∈ wAll := wA 379 (by decide +kernel) (by decide +kernel)
theorem w380 : (Cond.methodLink "GroupRowsLaw" 87 ⟨"GroupRowsModel", "find", "()I"⟩ : Cond) ∈ wAll := wA 380 (by decide +kernel) (by decide +kernel)
theorem w381 : (Cond.instanceMethod ⟨"GroupRowsModel", "find", "()I"⟩ : Cond) ∈ wAll := wA 381 (by decide +kernel) (by decide +kernel)
theorem w382 : (Cond.selects "GroupRowsModel" ⟨"GroupRowsModel", "find", "()I"⟩ ⟨"GroupRowsModel", "find", "()I"⟩ : Cond) ∈ wAll := wA 382 (by decide +kernel) (by decide +kernel)
theorem w383 : (Cond.code ⟨"GroupRowsModel", "find", "()I"⟩ prog_3_method_18_code 2 (some .int) : Cond) ∈ wAll := wA 383 (by decide +kernel) (by decide +kernel)
theorem w384 : (Cond.methodLink "GroupRowsLaw" 90 ⟨"GroupRowsModel", "keyAt", "(II)I"⟩ : Cond) ∈ wAll := wA 384 (by decide +kernel) (by decide +kernel)
theorem w385 : (Cond.instanceMethod ⟨"GroupRowsModel", "keyAt", "(II)I"⟩ : Cond) ∈ wAll := wA 385 (by decide +kernel) (by decide +kernel)
theorem w386 : (Cond.selects "GroupRowsModel" ⟨"GroupRowsModel", "keyAt", "(II)I"⟩ ⟨"GroupRowsModel", "keyAt", "(II)I"⟩ : Cond) ∈ wAll := wA 386 (by decide +kernel) (by decide +kernel)
theorem w387 : (Cond.code ⟨"GroupRowsModel", "keyAt", "(II)I"⟩ prog_3_method_20_code 3 (some .int) : Cond) ∈ wAll := wA 387 (by decide +kernel) (by decide +kernel)
theorem w388 : (Cond.methodLink "GroupRowsModel" 76 ⟨"GroupRowsModel", "isRow", "(I)Z"⟩ : Cond) ∈ wAll := wA 388 (by decide +kernel) (by decide +kernel)
theorem w390 : (Cond.instanceMethod ⟨"GroupRowsModel", "isRow", "(I)Z"⟩ : Cond) ∈ wAll := wA 390 (by decide +kernel) (by decide +kernel)
theorem w391 : (Cond.code ⟨"GroupRowsModel", "isRow", "(I)Z"⟩ prog_3_method_19_code 2 (some .boolean) : Cond) ∈ wAll := wA 391 (by decide +kernel) (by decide +kernel)
theorem w392 : (Cond.methodLink "GroupRowsLaw" 93 ⟨"GroupRowsModel", "count", "(I)J"⟩ : Cond) ∈ wAll := wA 392 (by decide +kernel) (by decide +kernel)
theorem w393 : (Cond.instanceMethod ⟨"GroupRowsModel", "count", "(I)J"⟩ : Cond) ∈ wAll := wA 393 (by decide +kernel) (by decide +kernel)
theorem w394 : (Cond.selects "GroupRowsModel" ⟨"GroupRowsModel", "count", "(I)J"⟩ ⟨"GroupRowsModel", "count", "(I)J"⟩ : Cond) ∈ wAll := wA 394 (by decide +kernel) (by decide +kernel)
theorem w395 : (Cond.code ⟨"GroupRowsModel", "count", "(I)J"⟩ prog_3_method_21_code 2 (some .long) : Cond) ∈ wAll := wA 395 (by decide +kernel) (by decide +kernel)
theorem w396 : (Cond.methodLink "GroupRowsLaw" 96 ⟨"GroupRowsModel", "told", "(III)J"⟩ : Cond) ∈ wAll := wA 396 (by decide +kernel) (by decide +kernel)
theorem w397 : (Cond.instanceMethod ⟨"GroupRowsModel", "told", "(III)J"⟩ : Cond) ∈ wAll := wA 397 (by decide +kernel) (by decide +kernel)
theorem w398 : (Cond.selects "GroupRowsModel" ⟨"GroupRowsModel", "told", "(III)J"⟩ ⟨"GroupRowsModel", "told", "(III)J"⟩ : Cond) ∈ wAll := wA 398 (by decide +kernel) (by decide +kernel)
theorem w399 : (Cond.code ⟨"GroupRowsModel", "told", "(III)J"⟩ prog_3_method_22_code 4 (some .long) : Cond) ∈ wAll := wA 399 (by decide +kernel) (by decide +kernel)
theorem w400 : (Cond.constantLong "GroupRowsLaw" 63 4294967295 : Cond) ∈ wAll := wA 400 (by decide +kernel) (by decide +kernel)
theorem w401 : (Cond.sameMethod "java/lang/Throwable" "java/lang/Throwable" "fillInStackTrace" "(I)Ljava/lang/Throwable;" : Cond) ∈ wAll := wA 401 (by decide +kernel) (by decide +kernel)
theorem sX_lowerPlace : Cond.selects "GroupRows" yX_lowerPlace yX_lowerPlace ∈ wAll := wP (y := yX_lowerPlace) (n := 11) (by decide +kernel)
theorem sX_compareKey : Cond.selects "GroupRows" yX_compareKey yX_compareKey ∈ wAll := wP (y := yX_compareKey) (n := 11) (by decide +kernel)
theorem sX_isKeyAt : Cond.selects "GroupRows" yX_isKeyAt yX_isKeyAt ∈ wAll := wP (y := yX_isKeyAt) (n := 11) (by decide +kernel)
theorem sX_isPart : Cond.selects "GroupRows" yX_isPart yX_isPart ∈ wAll := wP (y := yX_isPart) (n := 11) (by decide +kernel)
theorem sX_isMeasure : Cond.selects "GroupRows" yX_isMeasure yX_isMeasure ∈ wAll := wP (y := yX_isMeasure) (n := 11) (by decide +kernel)
theorem sX_takeFact : Cond.selects "GroupRows" yX_takeFact yX_takeFact ∈ wAll := wP (y := yX_takeFact) (n := 11) (by decide +kernel)
theorem sX_openRow : Cond.selects "GroupRows" yX_openRow yX_openRow ∈ wAll := wP (y := yX_openRow) (n := 11) (by decide +kernel)
theorem sX_insertSlot : Cond.selects "GroupRows" yX_insertSlot yX_insertSlot ∈ wAll := wP (y := yX_insertSlot) (n := 11) (by decide +kernel)
theorem sX_joinFact : Cond.selects "GroupRows" yX_joinFact yX_joinFact ∈ wAll := wP (y := yX_joinFact) (n := 11) (by decide +kernel)
theorem sX_stepFact : Cond.selects "GroupRows" yX_stepFact yX_stepFact ∈ wAll := wP (y := yX_stepFact) (n := 11) (by decide +kernel)
theorem sX_regroup : Cond.selects "GroupRows" yX_regroup yX_regroup ∈ wAll := wP (y := yX_regroup) (n := 11) (by decide +kernel)
theorem sX_joinRow : Cond.selects "GroupRows" yX_joinRow yX_joinRow ∈ wAll := wP (y := yX_joinRow) (n := 11) (by decide +kernel)
theorem sX_isPlace : Cond.selects "GroupRows" yX_isPlace yX_isPlace ∈ wAll := wP (y := yX_isPlace) (n := 11) (by decide +kernel)
theorem sM_comes : Cond.selects "GroupRowsModel" yM_comes yM_comes ∈ wAll := wP (y := yM_comes) (n := 11) (by decide +kernel)
theorem sM_before : Cond.selects "GroupRowsModel" yM_before yM_before ∈ wAll := wP (y := yM_before) (n := 11) (by decide +kernel)
theorem sM_against : Cond.selects "GroupRowsModel" yM_against yM_against ∈ wAll := wP (y := yM_against) (n := 11) (by decide +kernel)
theorem sM_copy : Cond.selects "GroupRowsModel" yM_copy yM_copy ∈ wAll := wP (y := yM_copy) (n := 11) (by decide +kernel)
theorem sM_compared : Cond.selects "GroupRowsModel" yM_compared yM_compared ∈ wAll := wP (y := yM_compared) (n := 11) (by decide +kernel)
theorem sM_join : Cond.selects "GroupRowsModel" yM_join yM_join ∈ wAll := wP (y := yM_join) (n := 11) (by decide +kernel)
theorem sM_sort : Cond.selects "GroupRowsModel" yM_sort yM_sort ∈ wAll := wP (y := yM_sort) (n := 11) (by decide +kernel)
theorem sM_swap : Cond.selects "GroupRowsModel" yM_swap yM_swap ∈ wAll := wP (y := yM_swap) (n := 11) (by decide +kernel)
theorem sM_isRow : Cond.selects "GroupRowsModel" yM_isRow yM_isRow ∈ wAll := wP (y := yM_isRow) (n := 11) (by decide +kernel)
end
section
theorem dX_init_0 : decode bX_init 0 = .ok (.aload_n 0, 1) := by decide +kernel
theorem dX_init_1 : decode bX_init 1 = .ok (.invokespecial 1, 3) := by decide +kernel
theorem dX_init_4 : decode bX_init 4 = .ok (.aload_n 0, 1) := by decide +kernel
theorem dX_init_5 : decode bX_init 5 = .ok (.iconst 0, 1) := by decide +kernel
theorem dX_init_6 : decode bX_init 6 = .ok (.putfield 7, 3) := by decide +kernel
theorem dX_init_9 : decode bX_init 9 = .ok (.aload_n 0, 1) := by decide +kernel
theorem dX_init_10 : decode bX_init 10 = .ok (.iconst 1, 1) := by decide +kernel
theorem dX_init_11 : decode bX_init 11 = .ok (.putfield 13, 3) := by decide +kernel
theorem dX_init_14 : decode bX_init 14 = .ok (.aload_n 0, 1) := by decide +kernel
theorem dX_init_15 : decode bX_init 15 = .ok (.iconst 0, 1) := by decide +kernel
theorem dX_init_16 : decode bX_init 16 = .ok (.putfield 16, 3) := by decide +kernel
theorem dX_init_19 : decode bX_init 19 = .ok (.aload_n 0, 1) := by decide +kernel
theorem dX_init_20 : decode bX_init 20 = .ok (.bipush 8, 2) := by decide +kernel
theorem dX_init_22 : decode bX_init 22 = .ok (.newarray .int, 2) := by decide +kernel
theorem dX_init_24 : decode bX_init 24 = .ok (.putfield 19, 3) := by decide +kernel
theorem dX_init_27 : decode bX_init 27 = .ok (.aload_n 0, 1) := by decide +kernel
theorem dX_init_28 : decode bX_init 28 = .ok (.bipush 8, 2) := by decide +kernel
theorem dX_init_30 : decode bX_init 30 = .ok (.newarray .long, 2) := by decide +kernel
theorem dX_init_32 : decode bX_init 32 = .ok (.putfield 23, 3) := by decide +kernel
theorem dX_init_35 : decode bX_init 35 = .ok (.aload_n 0, 1) := by decide +kernel
theorem dX_init_36 : decode bX_init 36 = .ok (.sipush 1000, 3) := by decide +kernel
theorem dX_init_39 : decode bX_init 39 = .ok (.newarray .int, 2) := by decide +kernel
theorem dX_init_41 : decode bX_init 41 = .ok (.putfield 27, 3) := by decide +kernel
theorem dX_init_44 : decode bX_init 44 = .ok (.aload_n 0, 1) := by decide +kernel
theorem dX_init_45 : decode bX_init 45 = .ok (.sipush 8000, 3) := by decide +kernel
theorem dX_init_48 : decode bX_init 48 = .ok (.newarray .int, 2) := by decide +kernel
theorem dX_init_50 : decode bX_init 50 = .ok (.putfield 30, 3) := by decide +kernel
theorem dX_init_53 : decode bX_init 53 = .ok (.aload_n 0, 1) := by decide +kernel
theorem dX_init_54 : decode bX_init 54 = .ok (.sipush 1000, 3) := by decide +kernel
theorem dX_init_57 : decode bX_init 57 = .ok (.newarray .long, 2) := by decide +kernel
theorem dX_init_59 : decode bX_init 59 = .ok (.putfield 33, 3) := by decide +kernel
theorem dX_init_62 : decode bX_init 62 = .ok (.aload_n 0, 1) := by decide +kernel
theorem dX_init_63 : decode bX_init 63 = .ok (.sipush 8000, 3) := by decide +kernel
theorem dX_init_66 : decode bX_init 66 = .ok (.newarray .long, 2) := by decide +kernel
theorem dX_init_68 : decode bX_init 68 = .ok (.putfield 36, 3) := by decide +kernel
theorem dX_init_71 : decode bX_init 71 = .ok (.aload_n 0, 1) := by decide +kernel
theorem dX_init_72 : decode bX_init 72 = .ok (.sipush 8000, 3) := by decide +kernel
theorem dX_init_75 : decode bX_init 75 = .ok (.newarray .long, 2) := by decide +kernel
theorem dX_init_77 : decode bX_init 77 = .ok (.putfield 39, 3) := by decide +kernel
theorem dX_init_80 : decode bX_init 80 = .ok (.aload_n 0, 1) := by decide +kernel
theorem dX_init_81 : decode bX_init 81 = .ok (.sipush 8000, 3) := by decide +kernel
theorem dX_init_84 : decode bX_init 84 = .ok (.newarray .long, 2) := by decide +kernel
theorem dX_init_86 : decode bX_init 86 = .ok (.putfield 42, 3) := by decide +kernel
theorem dX_init_89 : decode bX_init 89 = .ok (.iconst 0, 1) := by decide +kernel
theorem dX_init_90 : decode bX_init 90 = .ok (.istore_n 1, 1) := by decide +kernel
theorem dX_init_91 : decode bX_init 91 = .ok (.iload_n 1, 1) := by decide +kernel
theorem dX_init_92 : decode bX_init 92 = .ok (.sipush 1000, 3) := by decide +kernel
theorem dX_init_95 : decode bX_init 95 = .ok (.if_icmp .ge 16, 3) := by decide +kernel
theorem dX_init_98 : decode bX_init 98 = .ok (.aload_n 0, 1) := by decide +kernel
theorem dX_init_99 : decode bX_init 99 = .ok (.getfield 27, 3) := by decide +kernel
theorem dX_init_102 : decode bX_init 102 = .ok (.iload_n 1, 1) := by decide +kernel
theorem dX_init_103 : decode bX_init 103 = .ok (.iload_n 1, 1) := by decide +kernel
theorem dX_init_104 : decode bX_init 104 = .ok (.iastore, 1) := by decide +kernel
theorem dX_init_105 : decode bX_init 105 = .ok (.iinc 1 1, 3) := by decide +kernel
theorem dX_init_108 : decode bX_init 108 = .ok (.goto (-17), 3) := by decide +kernel
theorem dX_init_111 : decode bX_init 111 = .ok (.return_, 1) := by decide +kernel
theorem dX_rows_0 : decode bX_rows 0 = .ok (.aload_n 0, 1) := by decide +kernel
theorem dX_rows_1 : decode bX_rows 1 = .ok (.getfield 16, 3) := by decide +kernel
theorem dX_rows_4 : decode bX_rows 4 = .ok (.ireturn, 1) := by decide +kernel
theorem dX_find_0 : decode bX_find 0 = .ok (.aload_n 0, 1) := by decide +kernel
theorem dX_find_1 : decode bX_find 1 = .ok (.aload_n 0, 1) := by decide +kernel
theorem dX_find_2 : decode bX_find 2 = .ok (.getfield 19, 3) := by decide +kernel
theorem dX_find_5 : decode bX_find 5 = .ok (.iconst 0, 1) := by decide +kernel
theorem dX_find_6 : decode bX_find 6 = .ok (.aload_n 0, 1) := by decide +kernel
theorem dX_find_7 : decode bX_find 7 = .ok (.getfield 16, 3) := by decide +kernel
theorem dX_find_10 : decode bX_find 10 = .ok (.invokevirtual 91, 3) := by decide +kernel
theorem dX_find_13 : decode bX_find 13 = .ok (.istore_n 1, 1) := by decide +kernel
theorem dX_find_14 : decode bX_find 14 = .ok (.aload_n 0, 1) := by decide +kernel
theorem dX_find_15 : decode bX_find 15 = .ok (.iload_n 1, 1) := by decide +kernel
theorem dX_find_16 : decode bX_find 16 = .ok (.aload_n 0, 1) := by decide +kernel
theorem dX_find_17 : decode bX_find 17 = .ok (.getfield 19, 3) := by decide +kernel
theorem dX_find_20 : decode bX_find 20 = .ok (.iconst 0, 1) := by decide +kernel
theorem dX_find_21 : decode bX_find 21 = .ok (.aload_n 0, 1) := by decide +kernel
theorem dX_find_22 : decode bX_find 22 = .ok (.getfield 16, 3) := by decide +kernel
theorem dX_find_25 : decode bX_find 25 = .ok (.invokevirtual 95, 3) := by decide +kernel
theorem dX_find_28 : decode bX_find 28 = .ok (.ifCond .eq 7, 3) := by decide +kernel
theorem dX_find_31 : decode bX_find 31 = .ok (.iload_n 1, 1) := by decide +kernel
theorem dX_find_32 : decode bX_find 32 = .ok (.goto 4, 3) := by decide +kernel
theorem dX_find_35 : decode bX_find 35 = .ok (.iconst (-1), 1) := by decide +kernel
theorem dX_find_36 : decode bX_find 36 = .ok (.ireturn, 1) := by decide +kernel
theorem dX_lowerPlace_0 : decode bX_lowerPlace 0 = .ok (.iconst 0, 1) := by decide +kernel
theorem dX_lowerPlace_1 : decode bX_lowerPlace 1 = .ok (.istore 4, 2) := by decide +kernel
theorem dX_lowerPlace_3 : decode bX_lowerPlace 3 = .ok (.sipush 512, 3) := by decide +kernel
theorem dX_lowerPlace_6 : decode bX_lowerPlace 6 = .ok (.istore 5, 2) := by decide +kernel
theorem dX_lowerPlace_8 : decode bX_lowerPlace 8 = .ok (.iload 5, 2) := by decide +kernel
theorem dX_lowerPlace_10 : decode bX_lowerPlace 10 = .ok (.ifCond .le 47, 3) := by decide +kernel
theorem dX_lowerPlace_13 : decode bX_lowerPlace 13 = .ok (.iload 4, 2) := by decide +kernel
theorem dX_lowerPlace_15 : decode bX_lowerPlace 15 = .ok (.iload 5, 2) := by decide +kernel
theorem dX_lowerPlace_17 : decode bX_lowerPlace 17 = .ok (.iadd, 1) := by decide +kernel
theorem dX_lowerPlace_18 : decode bX_lowerPlace 18 = .ok (.istore 6, 2) := by decide +kernel
theorem dX_lowerPlace_20 : decode bX_lowerPlace 20 = .ok (.iload 6, 2) := by decide +kernel
theorem dX_lowerPlace_22 : decode bX_lowerPlace 22 = .ok (.iload_n 3, 1) := by decide +kernel
theorem dX_lowerPlace_23 : decode bX_lowerPlace 23 = .ok (.if_icmp .gt 25, 3) := by decide +kernel
theorem dX_lowerPlace_26 : decode bX_lowerPlace 26 = .ok (.aload_n 0, 1) := by decide +kernel
theorem dX_lowerPlace_27 : decode bX_lowerPlace 27 = .ok (.aload_n 0, 1) := by decide +kernel
theorem dX_lowerPlace_28 : decode bX_lowerPlace 28 = .ok (.getfield 27, 3) := by decide +kernel
theorem dX_lowerPlace_31 : decode bX_lowerPlace 31 = .ok (.iload 6, 2) := by decide +kernel
theorem dX_lowerPlace_33 : decode bX_lowerPlace 33 = .ok (.iconst 1, 1) := by decide +kernel
theorem dX_lowerPlace_34 : decode bX_lowerPlace 34 = .ok (.isub, 1) := by decide +kernel
theorem dX_lowerPlace_35 : decode bX_lowerPlace 35 = .ok (.iaload, 1) := by decide +kernel
theorem dX_lowerPlace_36 : decode bX_lowerPlace 36 = .ok (.aload_n 1, 1) := by decide +kernel
theorem dX_lowerPlace_37 : decode bX_lowerPlace 37 = .ok (.iload_n 2, 1) := by decide +kernel
theorem dX_lowerPlace_38 : decode bX_lowerPlace 38 = .ok (.invokevirtual 141, 3) := by decide +kernel
theorem dX_lowerPlace_41 : decode bX_lowerPlace 41 = .ok (.ifCond .ge 7, 3) := by decide +kernel
theorem dX_lowerPlace_44 : decode bX_lowerPlace 44 = .ok (.iload 6, 2) := by decide +kernel
theorem dX_lowerPlace_46 : decode bX_lowerPlace 46 = .ok (.istore 4, 2) := by decide +kernel
theorem dX_lowerPlace_48 : decode bX_lowerPlace 48 = .ok (.iload 5, 2) := by decide +kernel
theorem dX_lowerPlace_50 : decode bX_lowerPlace 50 = .ok (.iconst 2, 1) := by decide +kernel
theorem dX_lowerPlace_51 : decode bX_lowerPlace 51 = .ok (.idiv, 1) := by decide +kernel
theorem dX_lowerPlace_52 : decode bX_lowerPlace 52 = .ok (.istore 5, 2) := by decide +kernel
theorem dX_lowerPlace_54 : decode bX_lowerPlace 54 = .ok (.goto (-46), 3) := by decide +kernel
theorem dX_lowerPlace_57 : decode bX_lowerPlace 57 = .ok (.iload 4, 2) := by decide +kernel
theorem dX_lowerPlace_59 : decode bX_lowerPlace 59 = .ok (.ireturn, 1) := by decide +kernel
theorem dX_compareKey_0 : decode bX_compareKey 0 = .ok (.iload_n 1, 1) := by decide +kernel
theorem dX_compareKey_1 : decode bX_compareKey 1 = .ok (.bipush 8, 2) := by decide +kernel
theorem dX_compareKey_3 : decode bX_compareKey 3 = .ok (.imul, 1) := by decide +kernel
theorem dX_compareKey_4 : decode bX_compareKey 4 = .ok (.istore 4, 2) := by decide +kernel
theorem dX_compareKey_6 : decode bX_compareKey 6 = .ok (.iconst 0, 1) := by decide +kernel
theorem dX_compareKey_7 : decode bX_compareKey 7 = .ok (.istore 5, 2) := by decide +kernel
theorem dX_compareKey_9 : decode bX_compareKey 9 = .ok (.iload 5, 2) := by decide +kernel
theorem dX_compareKey_11 : decode bX_compareKey 11 = .ok (.aload_n 0, 1) := by decide +kernel
theorem dX_compareKey_12 : decode bX_compareKey 12 = .ok (.getfield 7, 3) := by decide +kernel
theorem dX_compareKey_15 : decode bX_compareKey 15 = .ok (.if_icmp .ge 38, 3) := by decide +kernel
theorem dX_compareKey_18 : decode bX_compareKey 18 = .ok (.aload_n 0, 1) := by decide +kernel
theorem dX_compareKey_19 : decode bX_compareKey 19 = .ok (.getfield 30, 3) := by decide +kernel
theorem dX_compareKey_22 : decode bX_compareKey 22 = .ok (.iload 4, 2) := by decide +kernel
theorem dX_compareKey_24 : decode bX_compareKey 24 = .ok (.iload 5, 2) := by decide +kernel
theorem dX_compareKey_26 : decode bX_compareKey 26 = .ok (.iadd, 1) := by decide +kernel
theorem dX_compareKey_27 : decode bX_compareKey 27 = .ok (.iaload, 1) := by decide +kernel
theorem dX_compareKey_28 : decode bX_compareKey 28 = .ok (.aload_n 2, 1) := by decide +kernel
theorem dX_compareKey_29 : decode bX_compareKey 29 = .ok (.iload_n 3, 1) := by decide +kernel
theorem dX_compareKey_30 : decode bX_compareKey 30 = .ok (.iload 5, 2) := by decide +kernel
theorem dX_compareKey_32 : decode bX_compareKey 32 = .ok (.iadd, 1) := by decide +kernel
theorem dX_compareKey_33 : decode bX_compareKey 33 = .ok (.iaload, 1) := by decide +kernel
theorem dX_compareKey_34 : decode bX_compareKey 34 = .ok (.invokestatic 145, 3) := by decide +kernel
theorem dX_compareKey_37 : decode bX_compareKey 37 = .ok (.istore 6, 2) := by decide +kernel
theorem dX_compareKey_39 : decode bX_compareKey 39 = .ok (.iload 6, 2) := by decide +kernel
theorem dX_compareKey_41 : decode bX_compareKey 41 = .ok (.ifCond .eq 6, 3) := by decide +kernel
theorem dX_compareKey_44 : decode bX_compareKey 44 = .ok (.iload 6, 2) := by decide +kernel
theorem dX_compareKey_46 : decode bX_compareKey 46 = .ok (.ireturn, 1) := by decide +kernel
theorem dX_compareKey_47 : decode bX_compareKey 47 = .ok (.iinc 5 1, 3) := by decide +kernel
theorem dX_compareKey_50 : decode bX_compareKey 50 = .ok (.goto (-41), 3) := by decide +kernel
theorem dX_compareKey_53 : decode bX_compareKey 53 = .ok (.iconst 0, 1) := by decide +kernel
theorem dX_compareKey_54 : decode bX_compareKey 54 = .ok (.ireturn, 1) := by decide +kernel
theorem dX_isKeyAt_0 : decode bX_isKeyAt 0 = .ok (.iload_n 1, 1) := by decide +kernel
theorem dX_isKeyAt_1 : decode bX_isKeyAt 1 = .ok (.iload 4, 2) := by decide +kernel
theorem dX_isKeyAt_3 : decode bX_isKeyAt 3 = .ok (.if_icmp .ge 22, 3) := by decide +kernel
theorem dX_isKeyAt_6 : decode bX_isKeyAt 6 = .ok (.aload_n 0, 1) := by decide +kernel
theorem dX_isKeyAt_7 : decode bX_isKeyAt 7 = .ok (.aload_n 0, 1) := by decide +kernel
theorem dX_isKeyAt_8 : decode bX_isKeyAt 8 = .ok (.getfield 27, 3) := by decide +kernel
theorem dX_isKeyAt_11 : decode bX_isKeyAt 11 = .ok (.iload_n 1, 1) := by decide +kernel
theorem dX_isKeyAt_12 : decode bX_isKeyAt 12 = .ok (.iaload, 1) := by decide +kernel
theorem dX_isKeyAt_13 : decode bX_isKeyAt 13 = .ok (.aload_n 2, 1) := by decide +kernel
theorem dX_isKeyAt_14 : decode bX_isKeyAt 14 = .ok (.iload_n 3, 1) := by decide +kernel
theorem dX_isKeyAt_15 : decode bX_isKeyAt 15 = .ok (.invokevirtual 141, 3) := by decide +kernel
theorem dX_isKeyAt_18 : decode bX_isKeyAt 18 = .ok (.ifCond .ne 7, 3) := by decide +kernel
theorem dX_isKeyAt_21 : decode bX_isKeyAt 21 = .ok (.iconst 1, 1) := by decide +kernel
theorem dX_isKeyAt_22 : decode bX_isKeyAt 22 = .ok (.goto 4, 3) := by decide +kernel
theorem dX_isKeyAt_25 : decode bX_isKeyAt 25 = .ok (.iconst 0, 1) := by decide +kernel
theorem dX_isKeyAt_26 : decode bX_isKeyAt 26 = .ok (.ireturn, 1) := by decide +kernel
theorem dX_begin_0 : decode bX_begin 0 = .ok (.iload_n 1, 1) := by decide +kernel
theorem dX_begin_1 : decode bX_begin 1 = .ok (.ifCond .lt 9, 3) := by decide +kernel
theorem dX_begin_4 : decode bX_begin 4 = .ok (.iload_n 1, 1) := by decide +kernel
theorem dX_begin_5 : decode bX_begin 5 = .ok (.bipush 8, 2) := by decide +kernel
theorem dX_begin_7 : decode bX_begin 7 = .ok (.if_icmp .le 13, 3) := by decide +kernel
theorem dX_begin_10 : decode bX_begin 10 = .ok (.new 45, 3) := by decide +kernel
theorem dX_begin_13 : decode bX_begin 13 = .ok (.dup, 1) := by decide +kernel
theorem dX_begin_14 : decode bX_begin 14 = .ok (.ldc 47, 2) := by decide +kernel
theorem dX_begin_16 : decode bX_begin 16 = .ok (.invokespecial 49, 3) := by decide +kernel
theorem dX_begin_19 : decode bX_begin 19 = .ok (.athrow, 1) := by decide +kernel
theorem dX_begin_20 : decode bX_begin 20 = .ok (.iload_n 2, 1) := by decide +kernel
theorem dX_begin_21 : decode bX_begin 21 = .ok (.iconst 1, 1) := by decide +kernel
theorem dX_begin_22 : decode bX_begin 22 = .ok (.if_icmp .lt 9, 3) := by decide +kernel
theorem dX_begin_25 : decode bX_begin 25 = .ok (.iload_n 2, 1) := by decide +kernel
theorem dX_begin_26 : decode bX_begin 26 = .ok (.bipush 8, 2) := by decide +kernel
theorem dX_begin_28 : decode bX_begin 28 = .ok (.if_icmp .le 13, 3) := by decide +kernel
theorem dX_begin_31 : decode bX_begin 31 = .ok (.new 45, 3) := by decide +kernel
theorem dX_begin_34 : decode bX_begin 34 = .ok (.dup, 1) := by decide +kernel
theorem dX_begin_35 : decode bX_begin 35 = .ok (.ldc 52, 2) := by decide +kernel
theorem dX_begin_37 : decode bX_begin 37 = .ok (.invokespecial 49, 3) := by decide +kernel
theorem dX_begin_40 : decode bX_begin 40 = .ok (.athrow, 1) := by decide +kernel
theorem dX_begin_41 : decode bX_begin 41 = .ok (.aload_n 0, 1) := by decide +kernel
theorem dX_begin_42 : decode bX_begin 42 = .ok (.iload_n 1, 1) := by decide +kernel
theorem dX_begin_43 : decode bX_begin 43 = .ok (.putfield 7, 3) := by decide +kernel
theorem dX_begin_46 : decode bX_begin 46 = .ok (.aload_n 0, 1) := by decide +kernel
theorem dX_begin_47 : decode bX_begin 47 = .ok (.iload_n 2, 1) := by decide +kernel
theorem dX_begin_48 : decode bX_begin 48 = .ok (.putfield 13, 3) := by decide +kernel
theorem dX_begin_51 : decode bX_begin 51 = .ok (.aload_n 0, 1) := by decide +kernel
theorem dX_begin_52 : decode bX_begin 52 = .ok (.iconst 0, 1) := by decide +kernel
theorem dX_begin_53 : decode bX_begin 53 = .ok (.putfield 16, 3) := by decide +kernel
theorem dX_begin_56 : decode bX_begin 56 = .ok (.aload_n 0, 1) := by decide +kernel
theorem dX_begin_57 : decode bX_begin 57 = .ok (.getfield 19, 3) := by decide +kernel
theorem dX_begin_60 : decode bX_begin 60 = .ok (.iconst 0, 1) := by decide +kernel
theorem dX_begin_61 : decode bX_begin 61 = .ok (.invokestatic 54, 3) := by decide +kernel
theorem dX_begin_64 : decode bX_begin 64 = .ok (.aload_n 0, 1) := by decide +kernel
theorem dX_begin_65 : decode bX_begin 65 = .ok (.getfield 23, 3) := by decide +kernel
theorem dX_begin_68 : decode bX_begin 68 = .ok (.lconst 0, 1) := by decide +kernel
theorem dX_begin_69 : decode bX_begin 69 = .ok (.invokestatic 60, 3) := by decide +kernel
theorem dX_begin_72 : decode bX_begin 72 = .ok (.return_, 1) := by decide +kernel
theorem dX_key_0 : decode bX_key 0 = .ok (.aload_n 0, 1) := by decide +kernel
theorem dX_key_1 : decode bX_key 1 = .ok (.iload_n 1, 1) := by decide +kernel
theorem dX_key_2 : decode bX_key 2 = .ok (.invokevirtual 63, 3) := by decide +kernel
theorem dX_key_5 : decode bX_key 5 = .ok (.ifCond .ne 13, 3) := by decide +kernel
theorem dX_key_8 : decode bX_key 8 = .ok (.new 45, 3) := by decide +kernel
theorem dX_key_11 : decode bX_key 11 = .ok (.dup, 1) := by decide +kernel
theorem dX_key_12 : decode bX_key 12 = .ok (.ldc 67, 2) := by decide +kernel
theorem dX_key_14 : decode bX_key 14 = .ok (.invokespecial 49, 3) := by decide +kernel
theorem dX_key_17 : decode bX_key 17 = .ok (.athrow, 1) := by decide +kernel
theorem dX_key_18 : decode bX_key 18 = .ok (.aload_n 0, 1) := by decide +kernel
theorem dX_key_19 : decode bX_key 19 = .ok (.getfield 19, 3) := by decide +kernel
theorem dX_key_22 : decode bX_key 22 = .ok (.iload_n 1, 1) := by decide +kernel
theorem dX_key_23 : decode bX_key 23 = .ok (.iaload, 1) := by decide +kernel
theorem dX_key_24 : decode bX_key 24 = .ok (.istore_n 3, 1) := by decide +kernel
theorem dX_key_25 : decode bX_key 25 = .ok (.aload_n 0, 1) := by decide +kernel
theorem dX_key_26 : decode bX_key 26 = .ok (.getfield 19, 3) := by decide +kernel
theorem dX_key_29 : decode bX_key 29 = .ok (.iload_n 1, 1) := by decide +kernel
theorem dX_key_30 : decode bX_key 30 = .ok (.iload_n 2, 1) := by decide +kernel
theorem dX_key_31 : decode bX_key 31 = .ok (.iastore, 1) := by decide +kernel
theorem dX_key_32 : decode bX_key 32 = .ok (.iload_n 3, 1) := by decide +kernel
theorem dX_key_33 : decode bX_key 33 = .ok (.ireturn, 1) := by decide +kernel
theorem dX_isPart_0 : decode bX_isPart 0 = .ok (.iload_n 1, 1) := by decide +kernel
theorem dX_isPart_1 : decode bX_isPart 1 = .ok (.ifCond .lt 15, 3) := by decide +kernel
theorem dX_isPart_4 : decode bX_isPart 4 = .ok (.iload_n 1, 1) := by decide +kernel
theorem dX_isPart_5 : decode bX_isPart 5 = .ok (.aload_n 0, 1) := by decide +kernel
theorem dX_isPart_6 : decode bX_isPart 6 = .ok (.getfield 7, 3) := by decide +kernel
theorem dX_isPart_9 : decode bX_isPart 9 = .ok (.if_icmp .ge 7, 3) := by decide +kernel
theorem dX_isPart_12 : decode bX_isPart 12 = .ok (.iconst 1, 1) := by decide +kernel
theorem dX_isPart_13 : decode bX_isPart 13 = .ok (.goto 4, 3) := by decide +kernel
theorem dX_isPart_16 : decode bX_isPart 16 = .ok (.iconst 0, 1) := by decide +kernel
theorem dX_isPart_17 : decode bX_isPart 17 = .ok (.ireturn, 1) := by decide +kernel
theorem dX_amount_0 : decode bX_amount 0 = .ok (.aload_n 0, 1) := by decide +kernel
theorem dX_amount_1 : decode bX_amount 1 = .ok (.iload_n 1, 1) := by decide +kernel
theorem dX_amount_2 : decode bX_amount 2 = .ok (.invokevirtual 69, 3) := by decide +kernel
theorem dX_amount_5 : decode bX_amount 5 = .ok (.ifCond .ne 13, 3) := by decide +kernel
theorem dX_amount_8 : decode bX_amount 8 = .ok (.new 45, 3) := by decide +kernel
theorem dX_amount_11 : decode bX_amount 11 = .ok (.dup, 1) := by decide +kernel
theorem dX_amount_12 : decode bX_amount 12 = .ok (.ldc 72, 2) := by decide +kernel
theorem dX_amount_14 : decode bX_amount 14 = .ok (.invokespecial 49, 3) := by decide +kernel
theorem dX_amount_17 : decode bX_amount 17 = .ok (.athrow, 1) := by decide +kernel
theorem dX_amount_18 : decode bX_amount 18 = .ok (.aload_n 0, 1) := by decide +kernel
theorem dX_amount_19 : decode bX_amount 19 = .ok (.getfield 23, 3) := by decide +kernel
theorem dX_amount_22 : decode bX_amount 22 = .ok (.iload_n 1, 1) := by decide +kernel
theorem dX_amount_23 : decode bX_amount 23 = .ok (.laload, 1) := by decide +kernel
theorem dX_amount_24 : decode bX_amount 24 = .ok (.lstore 4, 2) := by decide +kernel
theorem dX_amount_26 : decode bX_amount 26 = .ok (.aload_n 0, 1) := by decide +kernel
theorem dX_amount_27 : decode bX_amount 27 = .ok (.getfield 23, 3) := by decide +kernel
theorem dX_amount_30 : decode bX_amount 30 = .ok (.iload_n 1, 1) := by decide +kernel
theorem dX_amount_31 : decode bX_amount 31 = .ok (.lload_n 2, 1) := by decide +kernel
theorem dX_amount_32 : decode bX_amount 32 = .ok (.lastore, 1) := by decide +kernel
theorem dX_amount_33 : decode bX_amount 33 = .ok (.lload 4, 2) := by decide +kernel
theorem dX_amount_35 : decode bX_amount 35 = .ok (.lreturn, 1) := by decide +kernel
theorem dX_isMeasure_0 : decode bX_isMeasure 0 = .ok (.iload_n 1, 1) := by decide +kernel
theorem dX_isMeasure_1 : decode bX_isMeasure 1 = .ok (.ifCond .lt 15, 3) := by decide +kernel
theorem dX_isMeasure_4 : decode bX_isMeasure 4 = .ok (.iload_n 1, 1) := by decide +kernel
theorem dX_isMeasure_5 : decode bX_isMeasure 5 = .ok (.aload_n 0, 1) := by decide +kernel
theorem dX_isMeasure_6 : decode bX_isMeasure 6 = .ok (.getfield 13, 3) := by decide +kernel
theorem dX_isMeasure_9 : decode bX_isMeasure 9 = .ok (.if_icmp .ge 7, 3) := by decide +kernel
theorem dX_isMeasure_12 : decode bX_isMeasure 12 = .ok (.iconst 1, 1) := by decide +kernel
theorem dX_isMeasure_13 : decode bX_isMeasure 13 = .ok (.goto 4, 3) := by decide +kernel
theorem dX_isMeasure_16 : decode bX_isMeasure 16 = .ok (.iconst 0, 1) := by decide +kernel
theorem dX_isMeasure_17 : decode bX_isMeasure 17 = .ok (.ireturn, 1) := by decide +kernel
theorem dX_add_0 : decode bX_add 0 = .ok (.iload_n 1, 1) := by decide +kernel
theorem dX_add_1 : decode bX_add 1 = .ok (.iconst 1, 1) := by decide +kernel
theorem dX_add_2 : decode bX_add 2 = .ok (.if_icmp .lt 9, 3) := by decide +kernel
theorem dX_add_5 : decode bX_add 5 = .ok (.iload_n 1, 1) := by decide +kernel
theorem dX_add_6 : decode bX_add 6 = .ok (.ldc 74, 2) := by decide +kernel
theorem dX_add_8 : decode bX_add 8 = .ok (.if_icmp .le 13, 3) := by decide +kernel
theorem dX_add_11 : decode bX_add 11 = .ok (.new 45, 3) := by decide +kernel
theorem dX_add_14 : decode bX_add 14 = .ok (.dup, 1) := by decide +kernel
theorem dX_add_15 : decode bX_add 15 = .ok (.ldc 75, 2) := by decide +kernel
theorem dX_add_17 : decode bX_add 17 = .ok (.invokespecial 49, 3) := by decide +kernel
theorem dX_add_20 : decode bX_add 20 = .ok (.athrow, 1) := by decide +kernel
theorem dX_add_21 : decode bX_add 21 = .ok (.aload_n 0, 1) := by decide +kernel
theorem dX_add_22 : decode bX_add 22 = .ok (.iload_n 1, 1) := by decide +kernel
theorem dX_add_23 : decode bX_add 23 = .ok (.invokevirtual 77, 3) := by decide +kernel
theorem dX_add_26 : decode bX_add 26 = .ok (.ifCond .eq 10, 3) := by decide +kernel
theorem dX_add_29 : decode bX_add 29 = .ok (.aload_n 0, 1) := by decide +kernel
theorem dX_add_30 : decode bX_add 30 = .ok (.getfield 16, 3) := by decide +kernel
theorem dX_add_33 : decode bX_add 33 = .ok (.goto 5, 3) := by decide +kernel
theorem dX_add_36 : decode bX_add 36 = .ok (.bipush (-2), 2) := by decide +kernel
theorem dX_add_38 : decode bX_add 38 = .ok (.ireturn, 1) := by decide +kernel
theorem dX_takeFact_0 : decode bX_takeFact 0 = .ok (.aload_n 0, 1) := by decide +kernel
theorem dX_takeFact_1 : decode bX_takeFact 1 = .ok (.aload_n 0, 1) := by decide +kernel
theorem dX_takeFact_2 : decode bX_takeFact 2 = .ok (.getfield 19, 3) := by decide +kernel
theorem dX_takeFact_5 : decode bX_takeFact 5 = .ok (.iconst 0, 1) := by decide +kernel
theorem dX_takeFact_6 : decode bX_takeFact 6 = .ok (.aload_n 0, 1) := by decide +kernel
theorem dX_takeFact_7 : decode bX_takeFact 7 = .ok (.getfield 16, 3) := by decide +kernel
theorem dX_takeFact_10 : decode bX_takeFact 10 = .ok (.invokevirtual 91, 3) := by decide +kernel
theorem dX_takeFact_13 : decode bX_takeFact 13 = .ok (.istore_n 2, 1) := by decide +kernel
theorem dX_takeFact_14 : decode bX_takeFact 14 = .ok (.aload_n 0, 1) := by decide +kernel
theorem dX_takeFact_15 : decode bX_takeFact 15 = .ok (.iload_n 2, 1) := by decide +kernel
theorem dX_takeFact_16 : decode bX_takeFact 16 = .ok (.aload_n 0, 1) := by decide +kernel
theorem dX_takeFact_17 : decode bX_takeFact 17 = .ok (.getfield 19, 3) := by decide +kernel
theorem dX_takeFact_20 : decode bX_takeFact 20 = .ok (.iconst 0, 1) := by decide +kernel
theorem dX_takeFact_21 : decode bX_takeFact 21 = .ok (.aload_n 0, 1) := by decide +kernel
theorem dX_takeFact_22 : decode bX_takeFact 22 = .ok (.getfield 16, 3) := by decide +kernel
theorem dX_takeFact_25 : decode bX_takeFact 25 = .ok (.invokevirtual 95, 3) := by decide +kernel
theorem dX_takeFact_28 : decode bX_takeFact 28 = .ok (.ifCond .ne 20, 3) := by decide +kernel
theorem dX_takeFact_31 : decode bX_takeFact 31 = .ok (.aload_n 0, 1) := by decide +kernel
theorem dX_takeFact_32 : decode bX_takeFact 32 = .ok (.getfield 16, 3) := by decide +kernel
theorem dX_takeFact_35 : decode bX_takeFact 35 = .ok (.sipush 1000, 3) := by decide +kernel
theorem dX_takeFact_38 : decode bX_takeFact 38 = .ok (.if_icmp .lt 5, 3) := by decide +kernel
theorem dX_takeFact_41 : decode bX_takeFact 41 = .ok (.iconst 0, 1) := by decide +kernel
theorem dX_takeFact_42 : decode bX_takeFact 42 = .ok (.ireturn, 1) := by decide +kernel
theorem dX_takeFact_43 : decode bX_takeFact 43 = .ok (.aload_n 0, 1) := by decide +kernel
theorem dX_takeFact_44 : decode bX_takeFact 44 = .ok (.iload_n 2, 1) := by decide +kernel
theorem dX_takeFact_45 : decode bX_takeFact 45 = .ok (.invokevirtual 106, 3) := by decide +kernel
theorem dX_takeFact_48 : decode bX_takeFact 48 = .ok (.aload_n 0, 1) := by decide +kernel
theorem dX_takeFact_49 : decode bX_takeFact 49 = .ok (.aload_n 0, 1) := by decide +kernel
theorem dX_takeFact_50 : decode bX_takeFact 50 = .ok (.getfield 27, 3) := by decide +kernel
theorem dX_takeFact_53 : decode bX_takeFact 53 = .ok (.iload_n 2, 1) := by decide +kernel
theorem dX_takeFact_54 : decode bX_takeFact 54 = .ok (.iaload, 1) := by decide +kernel
theorem dX_takeFact_55 : decode bX_takeFact 55 = .ok (.iload_n 1, 1) := by decide +kernel
theorem dX_takeFact_56 : decode bX_takeFact 56 = .ok (.invokevirtual 110, 3) := by decide +kernel
theorem dX_takeFact_59 : decode bX_takeFact 59 = .ok (.iconst 1, 1) := by decide +kernel
theorem dX_takeFact_60 : decode bX_takeFact 60 = .ok (.ireturn, 1) := by decide +kernel
theorem dX_openRow_0 : decode bX_openRow 0 = .ok (.aload_n 0, 1) := by decide +kernel
theorem dX_openRow_1 : decode bX_openRow 1 = .ok (.getfield 27, 3) := by decide +kernel
theorem dX_openRow_4 : decode bX_openRow 4 = .ok (.aload_n 0, 1) := by decide +kernel
theorem dX_openRow_5 : decode bX_openRow 5 = .ok (.getfield 16, 3) := by decide +kernel
theorem dX_openRow_8 : decode bX_openRow 8 = .ok (.iaload, 1) := by decide +kernel
theorem dX_openRow_9 : decode bX_openRow 9 = .ok (.istore_n 2, 1) := by decide +kernel
theorem dX_openRow_10 : decode bX_openRow 10 = .ok (.aload_n 0, 1) := by decide +kernel
theorem dX_openRow_11 : decode bX_openRow 11 = .ok (.iload_n 2, 1) := by decide +kernel
theorem dX_openRow_12 : decode bX_openRow 12 = .ok (.iload_n 1, 1) := by decide +kernel
theorem dX_openRow_13 : decode bX_openRow 13 = .ok (.aload_n 0, 1) := by decide +kernel
theorem dX_openRow_14 : decode bX_openRow 14 = .ok (.getfield 16, 3) := by decide +kernel
theorem dX_openRow_17 : decode bX_openRow 17 = .ok (.invokevirtual 113, 3) := by decide +kernel
theorem dX_openRow_20 : decode bX_openRow 20 = .ok (.aload_n 0, 1) := by decide +kernel
theorem dX_openRow_21 : decode bX_openRow 21 = .ok (.dup, 1) := by decide +kernel
theorem dX_openRow_22 : decode bX_openRow 22 = .ok (.getfield 16, 3) := by decide +kernel
theorem dX_openRow_25 : decode bX_openRow 25 = .ok (.iconst 1, 1) := by decide +kernel
theorem dX_openRow_26 : decode bX_openRow 26 = .ok (.iadd, 1) := by decide +kernel
theorem dX_openRow_27 : decode bX_openRow 27 = .ok (.putfield 16, 3) := by decide +kernel
theorem dX_openRow_30 : decode bX_openRow 30 = .ok (.aload_n 0, 1) := by decide +kernel
theorem dX_openRow_31 : decode bX_openRow 31 = .ok (.getfield 19, 3) := by decide +kernel
theorem dX_openRow_34 : decode bX_openRow 34 = .ok (.iconst 0, 1) := by decide +kernel
theorem dX_openRow_35 : decode bX_openRow 35 = .ok (.aload_n 0, 1) := by decide +kernel
theorem dX_openRow_36 : decode bX_openRow 36 = .ok (.getfield 30, 3) := by decide +kernel
theorem dX_openRow_39 : decode bX_openRow 39 = .ok (.iload_n 2, 1) := by decide +kernel
theorem dX_openRow_40 : decode bX_openRow 40 = .ok (.bipush 8, 2) := by decide +kernel
theorem dX_openRow_42 : decode bX_openRow 42 = .ok (.imul, 1) := by decide +kernel
theorem dX_openRow_43 : decode bX_openRow 43 = .ok (.aload_n 0, 1) := by decide +kernel
theorem dX_openRow_44 : decode bX_openRow 44 = .ok (.getfield 7, 3) := by decide +kernel
theorem dX_openRow_47 : decode bX_openRow 47 = .ok (.invokestatic 117, 3) := by decide +kernel
theorem dX_openRow_50 : decode bX_openRow 50 = .ok (.aload_n 0, 1) := by decide +kernel
theorem dX_openRow_51 : decode bX_openRow 51 = .ok (.getfield 33, 3) := by decide +kernel
theorem dX_openRow_54 : decode bX_openRow 54 = .ok (.iload_n 2, 1) := by decide +kernel
theorem dX_openRow_55 : decode bX_openRow 55 = .ok (.lconst 0, 1) := by decide +kernel
theorem dX_openRow_56 : decode bX_openRow 56 = .ok (.lastore, 1) := by decide +kernel
theorem dX_openRow_57 : decode bX_openRow 57 = .ok (.iload_n 2, 1) := by decide +kernel
theorem dX_openRow_58 : decode bX_openRow 58 = .ok (.bipush 8, 2) := by decide +kernel
theorem dX_openRow_60 : decode bX_openRow 60 = .ok (.imul, 1) := by decide +kernel
theorem dX_openRow_61 : decode bX_openRow 61 = .ok (.istore_n 3, 1) := by decide +kernel
theorem dX_openRow_62 : decode bX_openRow 62 = .ok (.iconst 0, 1) := by decide +kernel
theorem dX_openRow_63 : decode bX_openRow 63 = .ok (.istore 4, 2) := by decide +kernel
theorem dX_openRow_65 : decode bX_openRow 65 = .ok (.iload 4, 2) := by decide +kernel
theorem dX_openRow_67 : decode bX_openRow 67 = .ok (.aload_n 0, 1) := by decide +kernel
theorem dX_openRow_68 : decode bX_openRow 68 = .ok (.getfield 13, 3) := by decide +kernel
theorem dX_openRow_71 : decode bX_openRow 71 = .ok (.if_icmp .ge 43, 3) := by decide +kernel
theorem dX_openRow_74 : decode bX_openRow 74 = .ok (.aload_n 0, 1) := by decide +kernel
theorem dX_openRow_75 : decode bX_openRow 75 = .ok (.getfield 36, 3) := by decide +kernel
theorem dX_openRow_78 : decode bX_openRow 78 = .ok (.iload_n 3, 1) := by decide +kernel
theorem dX_openRow_79 : decode bX_openRow 79 = .ok (.iload 4, 2) := by decide +kernel
theorem dX_openRow_81 : decode bX_openRow 81 = .ok (.iadd, 1) := by decide +kernel
theorem dX_openRow_82 : decode bX_openRow 82 = .ok (.lconst 0, 1) := by decide +kernel
theorem dX_openRow_83 : decode bX_openRow 83 = .ok (.lastore, 1) := by decide +kernel
theorem dX_openRow_84 : decode bX_openRow 84 = .ok (.aload_n 0, 1) := by decide +kernel
theorem dX_openRow_85 : decode bX_openRow 85 = .ok (.getfield 39, 3) := by decide +kernel
theorem dX_openRow_88 : decode bX_openRow 88 = .ok (.iload_n 3, 1) := by decide +kernel
theorem dX_openRow_89 : decode bX_openRow 89 = .ok (.iload 4, 2) := by decide +kernel
theorem dX_openRow_91 : decode bX_openRow 91 = .ok (.iadd, 1) := by decide +kernel
theorem dX_openRow_92 : decode bX_openRow 92 = .ok (.ldc2_w 125, 3) := by decide +kernel
theorem dX_openRow_95 : decode bX_openRow 95 = .ok (.lastore, 1) := by decide +kernel
theorem dX_openRow_96 : decode bX_openRow 96 = .ok (.aload_n 0, 1) := by decide +kernel
theorem dX_openRow_97 : decode bX_openRow 97 = .ok (.getfield 42, 3) := by decide +kernel
theorem dX_openRow_100 : decode bX_openRow 100 = .ok (.iload_n 3, 1) := by decide +kernel
theorem dX_openRow_101 : decode bX_openRow 101 = .ok (.iload 4, 2) := by decide +kernel
theorem dX_openRow_103 : decode bX_openRow 103 = .ok (.iadd, 1) := by decide +kernel
theorem dX_openRow_104 : decode bX_openRow 104 = .ok (.ldc2_w 127, 3) := by decide +kernel
theorem dX_openRow_107 : decode bX_openRow 107 = .ok (.lastore, 1) := by decide +kernel
theorem dX_openRow_108 : decode bX_openRow 108 = .ok (.iinc 4 1, 3) := by decide +kernel
theorem dX_openRow_111 : decode bX_openRow 111 = .ok (.goto (-46), 3) := by decide +kernel
theorem dX_openRow_114 : decode bX_openRow 114 = .ok (.return_, 1) := by decide +kernel
theorem dX_insertSlot_0 : decode bX_insertSlot 0 = .ok (.aload_n 0, 1) := by decide +kernel
theorem dX_insertSlot_1 : decode bX_insertSlot 1 = .ok (.getfield 27, 3) := by decide +kernel
theorem dX_insertSlot_4 : decode bX_insertSlot 4 = .ok (.iload_n 2, 1) := by decide +kernel
theorem dX_insertSlot_5 : decode bX_insertSlot 5 = .ok (.aload_n 0, 1) := by decide +kernel
theorem dX_insertSlot_6 : decode bX_insertSlot 6 = .ok (.getfield 27, 3) := by decide +kernel
theorem dX_insertSlot_9 : decode bX_insertSlot 9 = .ok (.iload_n 2, 1) := by decide +kernel
theorem dX_insertSlot_10 : decode bX_insertSlot 10 = .ok (.iconst 1, 1) := by decide +kernel
theorem dX_insertSlot_11 : decode bX_insertSlot 11 = .ok (.iadd, 1) := by decide +kernel
theorem dX_insertSlot_12 : decode bX_insertSlot 12 = .ok (.iload_n 3, 1) := by decide +kernel
theorem dX_insertSlot_13 : decode bX_insertSlot 13 = .ok (.iload_n 2, 1) := by decide +kernel
theorem dX_insertSlot_14 : decode bX_insertSlot 14 = .ok (.isub, 1) := by decide +kernel
theorem dX_insertSlot_15 : decode bX_insertSlot 15 = .ok (.invokestatic 117, 3) := by decide +kernel
theorem dX_insertSlot_18 : decode bX_insertSlot 18 = .ok (.aload_n 0, 1) := by decide +kernel
theorem dX_insertSlot_19 : decode bX_insertSlot 19 = .ok (.getfield 27, 3) := by decide +kernel
theorem dX_insertSlot_22 : decode bX_insertSlot 22 = .ok (.iload_n 2, 1) := by decide +kernel
theorem dX_insertSlot_23 : decode bX_insertSlot 23 = .ok (.iload_n 1, 1) := by decide +kernel
theorem dX_insertSlot_24 : decode bX_insertSlot 24 = .ok (.iastore, 1) := by decide +kernel
theorem dX_insertSlot_25 : decode bX_insertSlot 25 = .ok (.return_, 1) := by decide +kernel
theorem dX_joinFact_0 : decode bX_joinFact 0 = .ok (.aload_n 0, 1) := by decide +kernel
theorem dX_joinFact_1 : decode bX_joinFact 1 = .ok (.getfield 33, 3) := by decide +kernel
theorem dX_joinFact_4 : decode bX_joinFact 4 = .ok (.iload_n 1, 1) := by decide +kernel
theorem dX_joinFact_5 : decode bX_joinFact 5 = .ok (.dup2, 1) := by decide +kernel
theorem dX_joinFact_6 : decode bX_joinFact 6 = .ok (.laload, 1) := by decide +kernel
theorem dX_joinFact_7 : decode bX_joinFact 7 = .ok (.iload_n 2, 1) := by decide +kernel
theorem dX_joinFact_8 : decode bX_joinFact 8 = .ok (.i2l, 1) := by decide +kernel
theorem dX_joinFact_9 : decode bX_joinFact 9 = .ok (.ladd, 1) := by decide +kernel
theorem dX_joinFact_10 : decode bX_joinFact 10 = .ok (.lastore, 1) := by decide +kernel
theorem dX_joinFact_11 : decode bX_joinFact 11 = .ok (.iload_n 1, 1) := by decide +kernel
theorem dX_joinFact_12 : decode bX_joinFact 12 = .ok (.bipush 8, 2) := by decide +kernel
theorem dX_joinFact_14 : decode bX_joinFact 14 = .ok (.imul, 1) := by decide +kernel
theorem dX_joinFact_15 : decode bX_joinFact 15 = .ok (.istore_n 3, 1) := by decide +kernel
theorem dX_joinFact_16 : decode bX_joinFact 16 = .ok (.iconst 0, 1) := by decide +kernel
theorem dX_joinFact_17 : decode bX_joinFact 17 = .ok (.istore 4, 2) := by decide +kernel
theorem dX_joinFact_19 : decode bX_joinFact 19 = .ok (.iload 4, 2) := by decide +kernel
theorem dX_joinFact_21 : decode bX_joinFact 21 = .ok (.aload_n 0, 1) := by decide +kernel
theorem dX_joinFact_22 : decode bX_joinFact 22 = .ok (.getfield 13, 3) := by decide +kernel
theorem dX_joinFact_25 : decode bX_joinFact 25 = .ok (.if_icmp .ge 81, 3) := by decide +kernel
theorem dX_joinFact_28 : decode bX_joinFact 28 = .ok (.aload_n 0, 1) := by decide +kernel
theorem dX_joinFact_29 : decode bX_joinFact 29 = .ok (.getfield 23, 3) := by decide +kernel
theorem dX_joinFact_32 : decode bX_joinFact 32 = .ok (.iload 4, 2) := by decide +kernel
theorem dX_joinFact_34 : decode bX_joinFact 34 = .ok (.laload, 1) := by decide +kernel
theorem dX_joinFact_35 : decode bX_joinFact 35 = .ok (.lstore 5, 2) := by decide +kernel
theorem dX_joinFact_37 : decode bX_joinFact 37 = .ok (.aload_n 0, 1) := by decide +kernel
theorem dX_joinFact_38 : decode bX_joinFact 38 = .ok (.getfield 36, 3) := by decide +kernel
theorem dX_joinFact_41 : decode bX_joinFact 41 = .ok (.iload_n 3, 1) := by decide +kernel
theorem dX_joinFact_42 : decode bX_joinFact 42 = .ok (.iload 4, 2) := by decide +kernel
theorem dX_joinFact_44 : decode bX_joinFact 44 = .ok (.iadd, 1) := by decide +kernel
theorem dX_joinFact_45 : decode bX_joinFact 45 = .ok (.dup2, 1) := by decide +kernel
theorem dX_joinFact_46 : decode bX_joinFact 46 = .ok (.laload, 1) := by decide +kernel
theorem dX_joinFact_47 : decode bX_joinFact 47 = .ok (.lload 5, 2) := by decide +kernel
theorem dX_joinFact_49 : decode bX_joinFact 49 = .ok (.iload_n 2, 1) := by decide +kernel
theorem dX_joinFact_50 : decode bX_joinFact 50 = .ok (.i2l, 1) := by decide +kernel
theorem dX_joinFact_51 : decode bX_joinFact 51 = .ok (.lmul, 1) := by decide +kernel
theorem dX_joinFact_52 : decode bX_joinFact 52 = .ok (.ladd, 1) := by decide +kernel
theorem dX_joinFact_53 : decode bX_joinFact 53 = .ok (.lastore, 1) := by decide +kernel
theorem dX_joinFact_54 : decode bX_joinFact 54 = .ok (.aload_n 0, 1) := by decide +kernel
theorem dX_joinFact_55 : decode bX_joinFact 55 = .ok (.getfield 39, 3) := by decide +kernel
theorem dX_joinFact_58 : decode bX_joinFact 58 = .ok (.iload_n 3, 1) := by decide +kernel
theorem dX_joinFact_59 : decode bX_joinFact 59 = .ok (.iload 4, 2) := by decide +kernel
theorem dX_joinFact_61 : decode bX_joinFact 61 = .ok (.iadd, 1) := by decide +kernel
theorem dX_joinFact_62 : decode bX_joinFact 62 = .ok (.aload_n 0, 1) := by decide +kernel
theorem dX_joinFact_63 : decode bX_joinFact 63 = .ok (.getfield 39, 3) := by decide +kernel
theorem dX_joinFact_66 : decode bX_joinFact 66 = .ok (.iload_n 3, 1) := by decide +kernel
theorem dX_joinFact_67 : decode bX_joinFact 67 = .ok (.iload 4, 2) := by decide +kernel
theorem dX_joinFact_69 : decode bX_joinFact 69 = .ok (.iadd, 1) := by decide +kernel
theorem dX_joinFact_70 : decode bX_joinFact 70 = .ok (.laload, 1) := by decide +kernel
theorem dX_joinFact_71 : decode bX_joinFact 71 = .ok (.lload 5, 2) := by decide +kernel
theorem dX_joinFact_73 : decode bX_joinFact 73 = .ok (.invokestatic 129, 3) := by decide +kernel
theorem dX_joinFact_76 : decode bX_joinFact 76 = .ok (.lastore, 1) := by decide +kernel
theorem dX_joinFact_77 : decode bX_joinFact 77 = .ok (.aload_n 0, 1) := by decide +kernel
theorem dX_joinFact_78 : decode bX_joinFact 78 = .ok (.getfield 42, 3) := by decide +kernel
theorem dX_joinFact_81 : decode bX_joinFact 81 = .ok (.iload_n 3, 1) := by decide +kernel
theorem dX_joinFact_82 : decode bX_joinFact 82 = .ok (.iload 4, 2) := by decide +kernel
theorem dX_joinFact_84 : decode bX_joinFact 84 = .ok (.iadd, 1) := by decide +kernel
theorem dX_joinFact_85 : decode bX_joinFact 85 = .ok (.aload_n 0, 1) := by decide +kernel
theorem dX_joinFact_86 : decode bX_joinFact 86 = .ok (.getfield 42, 3) := by decide +kernel
theorem dX_joinFact_89 : decode bX_joinFact 89 = .ok (.iload_n 3, 1) := by decide +kernel
theorem dX_joinFact_90 : decode bX_joinFact 90 = .ok (.iload 4, 2) := by decide +kernel
theorem dX_joinFact_92 : decode bX_joinFact 92 = .ok (.iadd, 1) := by decide +kernel
theorem dX_joinFact_93 : decode bX_joinFact 93 = .ok (.laload, 1) := by decide +kernel
theorem dX_joinFact_94 : decode bX_joinFact 94 = .ok (.lload 5, 2) := by decide +kernel
theorem dX_joinFact_96 : decode bX_joinFact 96 = .ok (.invokestatic 135, 3) := by decide +kernel
theorem dX_joinFact_99 : decode bX_joinFact 99 = .ok (.lastore, 1) := by decide +kernel
theorem dX_joinFact_100 : decode bX_joinFact 100 = .ok (.iinc 4 1, 3) := by decide +kernel
theorem dX_joinFact_103 : decode bX_joinFact 103 = .ok (.goto (-84), 3) := by decide +kernel
theorem dX_joinFact_106 : decode bX_joinFact 106 = .ok (.return_, 1) := by decide +kernel
theorem dX_spread_0 : decode bX_spread 0 = .ok (.aload_n 0, 1) := by decide +kernel
theorem dX_spread_1 : decode bX_spread 1 = .ok (.iload_n 2, 1) := by decide +kernel
theorem dX_spread_2 : decode bX_spread 2 = .ok (.invokevirtual 63, 3) := by decide +kernel
theorem dX_spread_5 : decode bX_spread 5 = .ok (.ifCond .ne 13, 3) := by decide +kernel
theorem dX_spread_8 : decode bX_spread 8 = .ok (.new 45, 3) := by decide +kernel
theorem dX_spread_11 : decode bX_spread 11 = .ok (.dup, 1) := by decide +kernel
theorem dX_spread_12 : decode bX_spread 12 = .ok (.ldc 67, 2) := by decide +kernel
theorem dX_spread_14 : decode bX_spread 14 = .ok (.invokespecial 49, 3) := by decide +kernel
theorem dX_spread_17 : decode bX_spread 17 = .ok (.athrow, 1) := by decide +kernel
theorem dX_spread_18 : decode bX_spread 18 = .ok (.iload_n 1, 1) := by decide +kernel
theorem dX_spread_19 : decode bX_spread 19 = .ok (.iconst 1, 1) := by decide +kernel
theorem dX_spread_20 : decode bX_spread 20 = .ok (.if_icmp .lt 10, 3) := by decide +kernel
theorem dX_spread_23 : decode bX_spread 23 = .ok (.iload_n 1, 1) := by decide +kernel
theorem dX_spread_24 : decode bX_spread 24 = .ok (.sipush 5000, 3) := by decide +kernel
theorem dX_spread_27 : decode bX_spread 27 = .ok (.if_icmp .le 13, 3) := by decide +kernel
theorem dX_spread_30 : decode bX_spread 30 = .ok (.new 45, 3) := by decide +kernel
theorem dX_spread_33 : decode bX_spread 33 = .ok (.dup, 1) := by decide +kernel
theorem dX_spread_34 : decode bX_spread 34 = .ok (.ldc 80, 2) := by decide +kernel
theorem dX_spread_36 : decode bX_spread 36 = .ok (.invokespecial 49, 3) := by decide +kernel
theorem dX_spread_39 : decode bX_spread 39 = .ok (.athrow, 1) := by decide +kernel
theorem dX_spread_40 : decode bX_spread 40 = .ok (.iconst 0, 1) := by decide +kernel
theorem dX_spread_41 : decode bX_spread 41 = .ok (.istore 4, 2) := by decide +kernel
theorem dX_spread_43 : decode bX_spread 43 = .ok (.iload 4, 2) := by decide +kernel
theorem dX_spread_45 : decode bX_spread 45 = .ok (.iload_n 1, 1) := by decide +kernel
theorem dX_spread_46 : decode bX_spread 46 = .ok (.if_icmp .ge 31, 3) := by decide +kernel
theorem dX_spread_49 : decode bX_spread 49 = .ok (.iload 4, 2) := by decide +kernel
theorem dX_spread_51 : decode bX_spread 51 = .ok (.ifCond .le 9, 3) := by decide +kernel
theorem dX_spread_54 : decode bX_spread 54 = .ok (.aload_n 0, 1) := by decide +kernel
theorem dX_spread_55 : decode bX_spread 55 = .ok (.iload_n 2, 1) := by decide +kernel
theorem dX_spread_56 : decode bX_spread 56 = .ok (.iload_n 3, 1) := by decide +kernel
theorem dX_spread_57 : decode bX_spread 57 = .ok (.invokevirtual 82, 3) := by decide +kernel
theorem dX_spread_60 : decode bX_spread 60 = .ok (.aload_n 0, 1) := by decide +kernel
theorem dX_spread_61 : decode bX_spread 61 = .ok (.iconst 1, 1) := by decide +kernel
theorem dX_spread_62 : decode bX_spread 62 = .ok (.invokevirtual 77, 3) := by decide +kernel
theorem dX_spread_65 : decode bX_spread 65 = .ok (.ifCond .ne 6, 3) := by decide +kernel
theorem dX_spread_68 : decode bX_spread 68 = .ok (.iload 4, 2) := by decide +kernel
theorem dX_spread_70 : decode bX_spread 70 = .ok (.ireturn, 1) := by decide +kernel
theorem dX_spread_71 : decode bX_spread 71 = .ok (.iinc 4 1, 3) := by decide +kernel
theorem dX_spread_74 : decode bX_spread 74 = .ok (.goto (-31), 3) := by decide +kernel
theorem dX_spread_77 : decode bX_spread 77 = .ok (.iload_n 1, 1) := by decide +kernel
theorem dX_spread_78 : decode bX_spread 78 = .ok (.ireturn, 1) := by decide +kernel
theorem dX_stepFact_0 : decode bX_stepFact 0 = .ok (.aload_n 0, 1) := by decide +kernel
theorem dX_stepFact_1 : decode bX_stepFact 1 = .ok (.getfield 19, 3) := by decide +kernel
theorem dX_stepFact_4 : decode bX_stepFact 4 = .ok (.iload_n 1, 1) := by decide +kernel
theorem dX_stepFact_5 : decode bX_stepFact 5 = .ok (.dup2, 1) := by decide +kernel
theorem dX_stepFact_6 : decode bX_stepFact 6 = .ok (.iaload, 1) := by decide +kernel
theorem dX_stepFact_7 : decode bX_stepFact 7 = .ok (.iload_n 2, 1) := by decide +kernel
theorem dX_stepFact_8 : decode bX_stepFact 8 = .ok (.iadd, 1) := by decide +kernel
theorem dX_stepFact_9 : decode bX_stepFact 9 = .ok (.iastore, 1) := by decide +kernel
theorem dX_stepFact_10 : decode bX_stepFact 10 = .ok (.iconst 0, 1) := by decide +kernel
theorem dX_stepFact_11 : decode bX_stepFact 11 = .ok (.istore_n 3, 1) := by decide +kernel
theorem dX_stepFact_12 : decode bX_stepFact 12 = .ok (.iload_n 3, 1) := by decide +kernel
theorem dX_stepFact_13 : decode bX_stepFact 13 = .ok (.aload_n 0, 1) := by decide +kernel
theorem dX_stepFact_14 : decode bX_stepFact 14 = .ok (.getfield 13, 3) := by decide +kernel
theorem dX_stepFact_17 : decode bX_stepFact 17 = .ok (.if_icmp .ge 20, 3) := by decide +kernel
theorem dX_stepFact_20 : decode bX_stepFact 20 = .ok (.aload_n 0, 1) := by decide +kernel
theorem dX_stepFact_21 : decode bX_stepFact 21 = .ok (.getfield 23, 3) := by decide +kernel
theorem dX_stepFact_24 : decode bX_stepFact 24 = .ok (.iload_n 3, 1) := by decide +kernel
theorem dX_stepFact_25 : decode bX_stepFact 25 = .ok (.dup2, 1) := by decide +kernel
theorem dX_stepFact_26 : decode bX_stepFact 26 = .ok (.laload, 1) := by decide +kernel
theorem dX_stepFact_27 : decode bX_stepFact 27 = .ok (.iload_n 2, 1) := by decide +kernel
theorem dX_stepFact_28 : decode bX_stepFact 28 = .ok (.i2l, 1) := by decide +kernel
theorem dX_stepFact_29 : decode bX_stepFact 29 = .ok (.ladd, 1) := by decide +kernel
theorem dX_stepFact_30 : decode bX_stepFact 30 = .ok (.lastore, 1) := by decide +kernel
theorem dX_stepFact_31 : decode bX_stepFact 31 = .ok (.iinc 3 1, 3) := by decide +kernel
theorem dX_stepFact_34 : decode bX_stepFact 34 = .ok (.goto (-22), 3) := by decide +kernel
theorem dX_stepFact_37 : decode bX_stepFact 37 = .ok (.return_, 1) := by decide +kernel
theorem dX_roll_0 : decode bX_roll 0 = .ok (.aload_n 0, 1) := by decide +kernel
theorem dX_roll_1 : decode bX_roll 1 = .ok (.iload_n 1, 1) := by decide +kernel
theorem dX_roll_2 : decode bX_roll 2 = .ok (.invokevirtual 63, 3) := by decide +kernel
theorem dX_roll_5 : decode bX_roll 5 = .ok (.ifCond .ne 13, 3) := by decide +kernel
theorem dX_roll_8 : decode bX_roll 8 = .ok (.new 45, 3) := by decide +kernel
theorem dX_roll_11 : decode bX_roll 11 = .ok (.dup, 1) := by decide +kernel
theorem dX_roll_12 : decode bX_roll 12 = .ok (.ldc 67, 2) := by decide +kernel
theorem dX_roll_14 : decode bX_roll 14 = .ok (.invokespecial 49, 3) := by decide +kernel
theorem dX_roll_17 : decode bX_roll 17 = .ok (.athrow, 1) := by decide +kernel
theorem dX_roll_18 : decode bX_roll 18 = .ok (.iconst 0, 1) := by decide +kernel
theorem dX_roll_19 : decode bX_roll 19 = .ok (.istore_n 2, 1) := by decide +kernel
theorem dX_roll_20 : decode bX_roll 20 = .ok (.iload_n 2, 1) := by decide +kernel
theorem dX_roll_21 : decode bX_roll 21 = .ok (.aload_n 0, 1) := by decide +kernel
theorem dX_roll_22 : decode bX_roll 22 = .ok (.getfield 16, 3) := by decide +kernel
theorem dX_roll_25 : decode bX_roll 25 = .ok (.if_icmp .ge 27, 3) := by decide +kernel
theorem dX_roll_28 : decode bX_roll 28 = .ok (.aload_n 0, 1) := by decide +kernel
theorem dX_roll_29 : decode bX_roll 29 = .ok (.getfield 30, 3) := by decide +kernel
theorem dX_roll_32 : decode bX_roll 32 = .ok (.aload_n 0, 1) := by decide +kernel
theorem dX_roll_33 : decode bX_roll 33 = .ok (.getfield 27, 3) := by decide +kernel
theorem dX_roll_36 : decode bX_roll 36 = .ok (.iload_n 2, 1) := by decide +kernel
theorem dX_roll_37 : decode bX_roll 37 = .ok (.iaload, 1) := by decide +kernel
theorem dX_roll_38 : decode bX_roll 38 = .ok (.bipush 8, 2) := by decide +kernel
theorem dX_roll_40 : decode bX_roll 40 = .ok (.imul, 1) := by decide +kernel
theorem dX_roll_41 : decode bX_roll 41 = .ok (.iload_n 1, 1) := by decide +kernel
theorem dX_roll_42 : decode bX_roll 42 = .ok (.iadd, 1) := by decide +kernel
theorem dX_roll_43 : decode bX_roll 43 = .ok (.ldc 86, 2) := by decide +kernel
theorem dX_roll_45 : decode bX_roll 45 = .ok (.iastore, 1) := by decide +kernel
theorem dX_roll_46 : decode bX_roll 46 = .ok (.iinc 2 1, 3) := by decide +kernel
theorem dX_roll_49 : decode bX_roll 49 = .ok (.goto (-29), 3) := by decide +kernel
theorem dX_roll_52 : decode bX_roll 52 = .ok (.aload_n 0, 1) := by decide +kernel
theorem dX_roll_53 : decode bX_roll 53 = .ok (.aload_n 0, 1) := by decide +kernel
theorem dX_roll_54 : decode bX_roll 54 = .ok (.invokevirtual 87, 3) := by decide +kernel
theorem dX_roll_57 : decode bX_roll 57 = .ok (.putfield 16, 3) := by decide +kernel
theorem dX_roll_60 : decode bX_roll 60 = .ok (.aload_n 0, 1) := by decide +kernel
theorem dX_roll_61 : decode bX_roll 61 = .ok (.getfield 16, 3) := by decide +kernel
theorem dX_roll_64 : decode bX_roll 64 = .ok (.ireturn, 1) := by decide +kernel
theorem dX_regroup_0 : decode bX_regroup 0 = .ok (.iconst 0, 1) := by decide +kernel
theorem dX_regroup_1 : decode bX_regroup 1 = .ok (.istore_n 1, 1) := by decide +kernel
theorem dX_regroup_2 : decode bX_regroup 2 = .ok (.iconst 0, 1) := by decide +kernel
theorem dX_regroup_3 : decode bX_regroup 3 = .ok (.istore_n 2, 1) := by decide +kernel
theorem dX_regroup_4 : decode bX_regroup 4 = .ok (.iload_n 2, 1) := by decide +kernel
theorem dX_regroup_5 : decode bX_regroup 5 = .ok (.aload_n 0, 1) := by decide +kernel
theorem dX_regroup_6 : decode bX_regroup 6 = .ok (.getfield 16, 3) := by decide +kernel
theorem dX_regroup_9 : decode bX_regroup 9 = .ok (.if_icmp .ge 89, 3) := by decide +kernel
theorem dX_regroup_12 : decode bX_regroup 12 = .ok (.aload_n 0, 1) := by decide +kernel
theorem dX_regroup_13 : decode bX_regroup 13 = .ok (.getfield 27, 3) := by decide +kernel
theorem dX_regroup_16 : decode bX_regroup 16 = .ok (.iload_n 2, 1) := by decide +kernel
theorem dX_regroup_17 : decode bX_regroup 17 = .ok (.iaload, 1) := by decide +kernel
theorem dX_regroup_18 : decode bX_regroup 18 = .ok (.istore_n 3, 1) := by decide +kernel
theorem dX_regroup_19 : decode bX_regroup 19 = .ok (.iload_n 3, 1) := by decide +kernel
theorem dX_regroup_20 : decode bX_regroup 20 = .ok (.bipush 8, 2) := by decide +kernel
theorem dX_regroup_22 : decode bX_regroup 22 = .ok (.imul, 1) := by decide +kernel
theorem dX_regroup_23 : decode bX_regroup 23 = .ok (.istore 4, 2) := by decide +kernel
theorem dX_regroup_25 : decode bX_regroup 25 = .ok (.aload_n 0, 1) := by decide +kernel
theorem dX_regroup_26 : decode bX_regroup 26 = .ok (.aload_n 0, 1) := by decide +kernel
theorem dX_regroup_27 : decode bX_regroup 27 = .ok (.getfield 30, 3) := by decide +kernel
theorem dX_regroup_30 : decode bX_regroup 30 = .ok (.iload 4, 2) := by decide +kernel
theorem dX_regroup_32 : decode bX_regroup 32 = .ok (.iload_n 1, 1) := by decide +kernel
theorem dX_regroup_33 : decode bX_regroup 33 = .ok (.invokevirtual 91, 3) := by decide +kernel
theorem dX_regroup_36 : decode bX_regroup 36 = .ok (.istore 5, 2) := by decide +kernel
theorem dX_regroup_38 : decode bX_regroup 38 = .ok (.aload_n 0, 1) := by decide +kernel
theorem dX_regroup_39 : decode bX_regroup 39 = .ok (.iload 5, 2) := by decide +kernel
theorem dX_regroup_41 : decode bX_regroup 41 = .ok (.aload_n 0, 1) := by decide +kernel
theorem dX_regroup_42 : decode bX_regroup 42 = .ok (.getfield 30, 3) := by decide +kernel
theorem dX_regroup_45 : decode bX_regroup 45 = .ok (.iload 4, 2) := by decide +kernel
theorem dX_regroup_47 : decode bX_regroup 47 = .ok (.iload_n 1, 1) := by decide +kernel
theorem dX_regroup_48 : decode bX_regroup 48 = .ok (.invokevirtual 95, 3) := by decide +kernel
theorem dX_regroup_51 : decode bX_regroup 51 = .ok (.ifCond .eq 18, 3) := by decide +kernel
theorem dX_regroup_54 : decode bX_regroup 54 = .ok (.aload_n 0, 1) := by decide +kernel
theorem dX_regroup_55 : decode bX_regroup 55 = .ok (.aload_n 0, 1) := by decide +kernel
theorem dX_regroup_56 : decode bX_regroup 56 = .ok (.getfield 27, 3) := by decide +kernel
theorem dX_regroup_59 : decode bX_regroup 59 = .ok (.iload 5, 2) := by decide +kernel
theorem dX_regroup_61 : decode bX_regroup 61 = .ok (.iaload, 1) := by decide +kernel
theorem dX_regroup_62 : decode bX_regroup 62 = .ok (.iload_n 3, 1) := by decide +kernel
theorem dX_regroup_63 : decode bX_regroup 63 = .ok (.invokevirtual 138, 3) := by decide +kernel
theorem dX_regroup_66 : decode bX_regroup 66 = .ok (.goto 26, 3) := by decide +kernel
theorem dX_regroup_69 : decode bX_regroup 69 = .ok (.aload_n 0, 1) := by decide +kernel
theorem dX_regroup_70 : decode bX_regroup 70 = .ok (.getfield 27, 3) := by decide +kernel
theorem dX_regroup_73 : decode bX_regroup 73 = .ok (.iload_n 2, 1) := by decide +kernel
theorem dX_regroup_74 : decode bX_regroup 74 = .ok (.aload_n 0, 1) := by decide +kernel
theorem dX_regroup_75 : decode bX_regroup 75 = .ok (.getfield 27, 3) := by decide +kernel
theorem dX_regroup_78 : decode bX_regroup 78 = .ok (.iload_n 1, 1) := by decide +kernel
theorem dX_regroup_79 : decode bX_regroup 79 = .ok (.iaload, 1) := by decide +kernel
theorem dX_regroup_80 : decode bX_regroup 80 = .ok (.iastore, 1) := by decide +kernel
theorem dX_regroup_81 : decode bX_regroup 81 = .ok (.aload_n 0, 1) := by decide +kernel
theorem dX_regroup_82 : decode bX_regroup 82 = .ok (.iload_n 3, 1) := by decide +kernel
theorem dX_regroup_83 : decode bX_regroup 83 = .ok (.iload 5, 2) := by decide +kernel
theorem dX_regroup_85 : decode bX_regroup 85 = .ok (.iload_n 1, 1) := by decide +kernel
theorem dX_regroup_86 : decode bX_regroup 86 = .ok (.invokevirtual 113, 3) := by decide +kernel
theorem dX_regroup_89 : decode bX_regroup 89 = .ok (.iinc 1 1, 3) := by decide +kernel
theorem dX_regroup_92 : decode bX_regroup 92 = .ok (.iinc 2 1, 3) := by decide +kernel
theorem dX_regroup_95 : decode bX_regroup 95 = .ok (.goto (-91), 3) := by decide +kernel
theorem dX_regroup_98 : decode bX_regroup 98 = .ok (.iload_n 1, 1) := by decide +kernel
theorem dX_regroup_99 : decode bX_regroup 99 = .ok (.ireturn, 1) := by decide +kernel
theorem dX_joinRow_0 : decode bX_joinRow 0 = .ok (.aload_n 0, 1) := by decide +kernel
theorem dX_joinRow_1 : decode bX_joinRow 1 = .ok (.getfield 33, 3) := by decide +kernel
theorem dX_joinRow_4 : decode bX_joinRow 4 = .ok (.iload_n 1, 1) := by decide +kernel
theorem dX_joinRow_5 : decode bX_joinRow 5 = .ok (.dup2, 1) := by decide +kernel
theorem dX_joinRow_6 : decode bX_joinRow 6 = .ok (.laload, 1) := by decide +kernel
theorem dX_joinRow_7 : decode bX_joinRow 7 = .ok (.aload_n 0, 1) := by decide +kernel
theorem dX_joinRow_8 : decode bX_joinRow 8 = .ok (.getfield 33, 3) := by decide +kernel
theorem dX_joinRow_11 : decode bX_joinRow 11 = .ok (.iload_n 2, 1) := by decide +kernel
theorem dX_joinRow_12 : decode bX_joinRow 12 = .ok (.laload, 1) := by decide +kernel
theorem dX_joinRow_13 : decode bX_joinRow 13 = .ok (.ladd, 1) := by decide +kernel
theorem dX_joinRow_14 : decode bX_joinRow 14 = .ok (.lastore, 1) := by decide +kernel
theorem dX_joinRow_15 : decode bX_joinRow 15 = .ok (.iload_n 1, 1) := by decide +kernel
theorem dX_joinRow_16 : decode bX_joinRow 16 = .ok (.bipush 8, 2) := by decide +kernel
theorem dX_joinRow_18 : decode bX_joinRow 18 = .ok (.imul, 1) := by decide +kernel
theorem dX_joinRow_19 : decode bX_joinRow 19 = .ok (.istore_n 3, 1) := by decide +kernel
theorem dX_joinRow_20 : decode bX_joinRow 20 = .ok (.iload_n 2, 1) := by decide +kernel
theorem dX_joinRow_21 : decode bX_joinRow 21 = .ok (.bipush 8, 2) := by decide +kernel
theorem dX_joinRow_23 : decode bX_joinRow 23 = .ok (.imul, 1) := by decide +kernel
theorem dX_joinRow_24 : decode bX_joinRow 24 = .ok (.istore 4, 2) := by decide +kernel
theorem dX_joinRow_26 : decode bX_joinRow 26 = .ok (.iconst 0, 1) := by decide +kernel
theorem dX_joinRow_27 : decode bX_joinRow 27 = .ok (.istore 5, 2) := by decide +kernel
theorem dX_joinRow_29 : decode bX_joinRow 29 = .ok (.iload 5, 2) := by decide +kernel
theorem dX_joinRow_31 : decode bX_joinRow 31 = .ok (.aload_n 0, 1) := by decide +kernel
theorem dX_joinRow_32 : decode bX_joinRow 32 = .ok (.getfield 13, 3) := by decide +kernel
theorem dX_joinRow_35 : decode bX_joinRow 35 = .ok (.if_icmp .ge 93, 3) := by decide +kernel
theorem dX_joinRow_38 : decode bX_joinRow 38 = .ok (.aload_n 0, 1) := by decide +kernel
theorem dX_joinRow_39 : decode bX_joinRow 39 = .ok (.getfield 36, 3) := by decide +kernel
theorem dX_joinRow_42 : decode bX_joinRow 42 = .ok (.iload_n 3, 1) := by decide +kernel
theorem dX_joinRow_43 : decode bX_joinRow 43 = .ok (.iload 5, 2) := by decide +kernel
theorem dX_joinRow_45 : decode bX_joinRow 45 = .ok (.iadd, 1) := by decide +kernel
theorem dX_joinRow_46 : decode bX_joinRow 46 = .ok (.dup2, 1) := by decide +kernel
theorem dX_joinRow_47 : decode bX_joinRow 47 = .ok (.laload, 1) := by decide +kernel
theorem dX_joinRow_48 : decode bX_joinRow 48 = .ok (.aload_n 0, 1) := by decide +kernel
theorem dX_joinRow_49 : decode bX_joinRow 49 = .ok (.getfield 36, 3) := by decide +kernel
theorem dX_joinRow_52 : decode bX_joinRow 52 = .ok (.iload 4, 2) := by decide +kernel
theorem dX_joinRow_54 : decode bX_joinRow 54 = .ok (.iload 5, 2) := by decide +kernel
theorem dX_joinRow_56 : decode bX_joinRow 56 = .ok (.iadd, 1) := by decide +kernel
theorem dX_joinRow_57 : decode bX_joinRow 57 = .ok (.laload, 1) := by decide +kernel
theorem dX_joinRow_58 : decode bX_joinRow 58 = .ok (.ladd, 1) := by decide +kernel
theorem dX_joinRow_59 : decode bX_joinRow 59 = .ok (.lastore, 1) := by decide +kernel
theorem dX_joinRow_60 : decode bX_joinRow 60 = .ok (.aload_n 0, 1) := by decide +kernel
theorem dX_joinRow_61 : decode bX_joinRow 61 = .ok (.getfield 39, 3) := by decide +kernel
theorem dX_joinRow_64 : decode bX_joinRow 64 = .ok (.iload_n 3, 1) := by decide +kernel
theorem dX_joinRow_65 : decode bX_joinRow 65 = .ok (.iload 5, 2) := by decide +kernel
theorem dX_joinRow_67 : decode bX_joinRow 67 = .ok (.iadd, 1) := by decide +kernel
theorem dX_joinRow_68 : decode bX_joinRow 68 = .ok (.aload_n 0, 1) := by decide +kernel
theorem dX_joinRow_69 : decode bX_joinRow 69 = .ok (.getfield 39, 3) := by decide +kernel
theorem dX_joinRow_72 : decode bX_joinRow 72 = .ok (.iload_n 3, 1) := by decide +kernel
theorem dX_joinRow_73 : decode bX_joinRow 73 = .ok (.iload 5, 2) := by decide +kernel
theorem dX_joinRow_75 : decode bX_joinRow 75 = .ok (.iadd, 1) := by decide +kernel
theorem dX_joinRow_76 : decode bX_joinRow 76 = .ok (.laload, 1) := by decide +kernel
theorem dX_joinRow_77 : decode bX_joinRow 77 = .ok (.aload_n 0, 1) := by decide +kernel
theorem dX_joinRow_78 : decode bX_joinRow 78 = .ok (.getfield 39, 3) := by decide +kernel
theorem dX_joinRow_81 : decode bX_joinRow 81 = .ok (.iload 4, 2) := by decide +kernel
theorem dX_joinRow_83 : decode bX_joinRow 83 = .ok (.iload 5, 2) := by decide +kernel
theorem dX_joinRow_85 : decode bX_joinRow 85 = .ok (.iadd, 1) := by decide +kernel
theorem dX_joinRow_86 : decode bX_joinRow 86 = .ok (.laload, 1) := by decide +kernel
theorem dX_joinRow_87 : decode bX_joinRow 87 = .ok (.invokestatic 129, 3) := by decide +kernel
theorem dX_joinRow_90 : decode bX_joinRow 90 = .ok (.lastore, 1) := by decide +kernel
theorem dX_joinRow_91 : decode bX_joinRow 91 = .ok (.aload_n 0, 1) := by decide +kernel
theorem dX_joinRow_92 : decode bX_joinRow 92 = .ok (.getfield 42, 3) := by decide +kernel
theorem dX_joinRow_95 : decode bX_joinRow 95 = .ok (.iload_n 3, 1) := by decide +kernel
theorem dX_joinRow_96 : decode bX_joinRow 96 = .ok (.iload 5, 2) := by decide +kernel
theorem dX_joinRow_98 : decode bX_joinRow 98 = .ok (.iadd, 1) := by decide +kernel
theorem dX_joinRow_99 : decode bX_joinRow 99 = .ok (.aload_n 0, 1) := by decide +kernel
theorem dX_joinRow_100 : decode bX_joinRow 100 = .ok (.getfield 42, 3) := by decide +kernel
theorem dX_joinRow_103 : decode bX_joinRow 103 = .ok (.iload_n 3, 1) := by decide +kernel
theorem dX_joinRow_104 : decode bX_joinRow 104 = .ok (.iload 5, 2) := by decide +kernel
theorem dX_joinRow_106 : decode bX_joinRow 106 = .ok (.iadd, 1) := by decide +kernel
theorem dX_joinRow_107 : decode bX_joinRow 107 = .ok (.laload, 1) := by decide +kernel
theorem dX_joinRow_108 : decode bX_joinRow 108 = .ok (.aload_n 0, 1) := by decide +kernel
theorem dX_joinRow_109 : decode bX_joinRow 109 = .ok (.getfield 42, 3) := by decide +kernel
theorem dX_joinRow_112 : decode bX_joinRow 112 = .ok (.iload 4, 2) := by decide +kernel
theorem dX_joinRow_114 : decode bX_joinRow 114 = .ok (.iload 5, 2) := by decide +kernel
theorem dX_joinRow_116 : decode bX_joinRow 116 = .ok (.iadd, 1) := by decide +kernel
theorem dX_joinRow_117 : decode bX_joinRow 117 = .ok (.laload, 1) := by decide +kernel
theorem dX_joinRow_118 : decode bX_joinRow 118 = .ok (.invokestatic 135, 3) := by decide +kernel
theorem dX_joinRow_121 : decode bX_joinRow 121 = .ok (.lastore, 1) := by decide +kernel
theorem dX_joinRow_122 : decode bX_joinRow 122 = .ok (.iinc 5 1, 3) := by decide +kernel
theorem dX_joinRow_125 : decode bX_joinRow 125 = .ok (.goto (-96), 3) := by decide +kernel
theorem dX_joinRow_128 : decode bX_joinRow 128 = .ok (.return_, 1) := by decide +kernel
theorem dX_keyAt_0 : decode bX_keyAt 0 = .ok (.aload_n 0, 1) := by decide +kernel
theorem dX_keyAt_1 : decode bX_keyAt 1 = .ok (.iload_n 1, 1) := by decide +kernel
theorem dX_keyAt_2 : decode bX_keyAt 2 = .ok (.invokevirtual 99, 3) := by decide +kernel
theorem dX_keyAt_5 : decode bX_keyAt 5 = .ok (.ifCond .ne 13, 3) := by decide +kernel
theorem dX_keyAt_8 : decode bX_keyAt 8 = .ok (.new 45, 3) := by decide +kernel
theorem dX_keyAt_11 : decode bX_keyAt 11 = .ok (.dup, 1) := by decide +kernel
theorem dX_keyAt_12 : decode bX_keyAt 12 = .ok (.ldc 102, 2) := by decide +kernel
theorem dX_keyAt_14 : decode bX_keyAt 14 = .ok (.invokespecial 49, 3) := by decide +kernel
theorem dX_keyAt_17 : decode bX_keyAt 17 = .ok (.athrow, 1) := by decide +kernel
theorem dX_keyAt_18 : decode bX_keyAt 18 = .ok (.aload_n 0, 1) := by decide +kernel
theorem dX_keyAt_19 : decode bX_keyAt 19 = .ok (.iload_n 2, 1) := by decide +kernel
theorem dX_keyAt_20 : decode bX_keyAt 20 = .ok (.invokevirtual 63, 3) := by decide +kernel
theorem dX_keyAt_23 : decode bX_keyAt 23 = .ok (.ifCond .ne 13, 3) := by decide +kernel
theorem dX_keyAt_26 : decode bX_keyAt 26 = .ok (.new 45, 3) := by decide +kernel
theorem dX_keyAt_29 : decode bX_keyAt 29 = .ok (.dup, 1) := by decide +kernel
theorem dX_keyAt_30 : decode bX_keyAt 30 = .ok (.ldc 67, 2) := by decide +kernel
theorem dX_keyAt_32 : decode bX_keyAt 32 = .ok (.invokespecial 49, 3) := by decide +kernel
theorem dX_keyAt_35 : decode bX_keyAt 35 = .ok (.athrow, 1) := by decide +kernel
theorem dX_keyAt_36 : decode bX_keyAt 36 = .ok (.aload_n 0, 1) := by decide +kernel
theorem dX_keyAt_37 : decode bX_keyAt 37 = .ok (.getfield 30, 3) := by decide +kernel
theorem dX_keyAt_40 : decode bX_keyAt 40 = .ok (.aload_n 0, 1) := by decide +kernel
theorem dX_keyAt_41 : decode bX_keyAt 41 = .ok (.getfield 27, 3) := by decide +kernel
theorem dX_keyAt_44 : decode bX_keyAt 44 = .ok (.iload_n 1, 1) := by decide +kernel
theorem dX_keyAt_45 : decode bX_keyAt 45 = .ok (.iaload, 1) := by decide +kernel
theorem dX_keyAt_46 : decode bX_keyAt 46 = .ok (.bipush 8, 2) := by decide +kernel
theorem dX_keyAt_48 : decode bX_keyAt 48 = .ok (.imul, 1) := by decide +kernel
theorem dX_keyAt_49 : decode bX_keyAt 49 = .ok (.iload_n 2, 1) := by decide +kernel
theorem dX_keyAt_50 : decode bX_keyAt 50 = .ok (.iadd, 1) := by decide +kernel
theorem dX_keyAt_51 : decode bX_keyAt 51 = .ok (.iaload, 1) := by decide +kernel
theorem dX_keyAt_52 : decode bX_keyAt 52 = .ok (.ireturn, 1) := by decide +kernel
theorem dX_isPlace_0 : decode bX_isPlace 0 = .ok (.iload_n 1, 1) := by decide +kernel
theorem dX_isPlace_1 : decode bX_isPlace 1 = .ok (.ifCond .lt 15, 3) := by decide +kernel
theorem dX_isPlace_4 : decode bX_isPlace 4 = .ok (.iload_n 1, 1) := by decide +kernel
theorem dX_isPlace_5 : decode bX_isPlace 5 = .ok (.aload_n 0, 1) := by decide +kernel
theorem dX_isPlace_6 : decode bX_isPlace 6 = .ok (.getfield 16, 3) := by decide +kernel
theorem dX_isPlace_9 : decode bX_isPlace 9 = .ok (.if_icmp .ge 7, 3) := by decide +kernel
theorem dX_isPlace_12 : decode bX_isPlace 12 = .ok (.iconst 1, 1) := by decide +kernel
theorem dX_isPlace_13 : decode bX_isPlace 13 = .ok (.goto 4, 3) := by decide +kernel
theorem dX_isPlace_16 : decode bX_isPlace 16 = .ok (.iconst 0, 1) := by decide +kernel
theorem dX_isPlace_17 : decode bX_isPlace 17 = .ok (.ireturn, 1) := by decide +kernel
theorem dX_count_0 : decode bX_count 0 = .ok (.aload_n 0, 1) := by decide +kernel
theorem dX_count_1 : decode bX_count 1 = .ok (.iload_n 1, 1) := by decide +kernel
theorem dX_count_2 : decode bX_count 2 = .ok (.invokevirtual 99, 3) := by decide +kernel
theorem dX_count_5 : decode bX_count 5 = .ok (.ifCond .ne 13, 3) := by decide +kernel
theorem dX_count_8 : decode bX_count 8 = .ok (.new 45, 3) := by decide +kernel
theorem dX_count_11 : decode bX_count 11 = .ok (.dup, 1) := by decide +kernel
theorem dX_count_12 : decode bX_count 12 = .ok (.ldc 102, 2) := by decide +kernel
theorem dX_count_14 : decode bX_count 14 = .ok (.invokespecial 49, 3) := by decide +kernel
theorem dX_count_17 : decode bX_count 17 = .ok (.athrow, 1) := by decide +kernel
theorem dX_count_18 : decode bX_count 18 = .ok (.aload_n 0, 1) := by decide +kernel
theorem dX_count_19 : decode bX_count 19 = .ok (.getfield 33, 3) := by decide +kernel
theorem dX_count_22 : decode bX_count 22 = .ok (.aload_n 0, 1) := by decide +kernel
theorem dX_count_23 : decode bX_count 23 = .ok (.getfield 27, 3) := by decide +kernel
theorem dX_count_26 : decode bX_count 26 = .ok (.iload_n 1, 1) := by decide +kernel
theorem dX_count_27 : decode bX_count 27 = .ok (.iaload, 1) := by decide +kernel
theorem dX_count_28 : decode bX_count 28 = .ok (.laload, 1) := by decide +kernel
theorem dX_count_29 : decode bX_count 29 = .ok (.lreturn, 1) := by decide +kernel
theorem dX_told_0 : decode bX_told 0 = .ok (.aload_n 0, 1) := by decide +kernel
theorem dX_told_1 : decode bX_told 1 = .ok (.iload_n 1, 1) := by decide +kernel
theorem dX_told_2 : decode bX_told 2 = .ok (.invokevirtual 99, 3) := by decide +kernel
theorem dX_told_5 : decode bX_told 5 = .ok (.ifCond .ne 13, 3) := by decide +kernel
theorem dX_told_8 : decode bX_told 8 = .ok (.new 45, 3) := by decide +kernel
theorem dX_told_11 : decode bX_told 11 = .ok (.dup, 1) := by decide +kernel
theorem dX_told_12 : decode bX_told 12 = .ok (.ldc 102, 2) := by decide +kernel
theorem dX_told_14 : decode bX_told 14 = .ok (.invokespecial 49, 3) := by decide +kernel
theorem dX_told_17 : decode bX_told 17 = .ok (.athrow, 1) := by decide +kernel
theorem dX_told_18 : decode bX_told 18 = .ok (.aload_n 0, 1) := by decide +kernel
theorem dX_told_19 : decode bX_told 19 = .ok (.iload_n 2, 1) := by decide +kernel
theorem dX_told_20 : decode bX_told 20 = .ok (.invokevirtual 69, 3) := by decide +kernel
theorem dX_told_23 : decode bX_told 23 = .ok (.ifCond .ne 13, 3) := by decide +kernel
theorem dX_told_26 : decode bX_told 26 = .ok (.new 45, 3) := by decide +kernel
theorem dX_told_29 : decode bX_told 29 = .ok (.dup, 1) := by decide +kernel
theorem dX_told_30 : decode bX_told 30 = .ok (.ldc 72, 2) := by decide +kernel
theorem dX_told_32 : decode bX_told 32 = .ok (.invokespecial 49, 3) := by decide +kernel
theorem dX_told_35 : decode bX_told 35 = .ok (.athrow, 1) := by decide +kernel
theorem dX_told_36 : decode bX_told 36 = .ok (.aload_n 0, 1) := by decide +kernel
theorem dX_told_37 : decode bX_told 37 = .ok (.getfield 27, 3) := by decide +kernel
theorem dX_told_40 : decode bX_told 40 = .ok (.iload_n 1, 1) := by decide +kernel
theorem dX_told_41 : decode bX_told 41 = .ok (.iaload, 1) := by decide +kernel
theorem dX_told_42 : decode bX_told 42 = .ok (.bipush 8, 2) := by decide +kernel
theorem dX_told_44 : decode bX_told 44 = .ok (.imul, 1) := by decide +kernel
theorem dX_told_45 : decode bX_told 45 = .ok (.iload_n 2, 1) := by decide +kernel
theorem dX_told_46 : decode bX_told 46 = .ok (.iadd, 1) := by decide +kernel
theorem dX_told_47 : decode bX_told 47 = .ok (.istore 4, 2) := by decide +kernel
theorem dX_told_49 : decode bX_told 49 = .ok (.iload_n 3, 1) := by decide +kernel
theorem dX_told_50 : decode bX_told 50 = .ok (.tableswitch 50 0 2 #[26, 34, 42], 26) := by decide +kernel
theorem dX_told_76 : decode bX_told 76 = .ok (.aload_n 0, 1) := by decide +kernel
theorem dX_told_77 : decode bX_told 77 = .ok (.getfield 36, 3) := by decide +kernel
theorem dX_told_80 : decode bX_told 80 = .ok (.iload 4, 2) := by decide +kernel
theorem dX_told_82 : decode bX_told 82 = .ok (.laload, 1) := by decide +kernel
theorem dX_told_83 : decode bX_told 83 = .ok (.lreturn, 1) := by decide +kernel
theorem dX_told_84 : decode bX_told 84 = .ok (.aload_n 0, 1) := by decide +kernel
theorem dX_told_85 : decode bX_told 85 = .ok (.getfield 39, 3) := by decide +kernel
theorem dX_told_88 : decode bX_told 88 = .ok (.iload 4, 2) := by decide +kernel
theorem dX_told_90 : decode bX_told 90 = .ok (.laload, 1) := by decide +kernel
theorem dX_told_91 : decode bX_told 91 = .ok (.lreturn, 1) := by decide +kernel
theorem dX_told_92 : decode bX_told 92 = .ok (.aload_n 0, 1) := by decide +kernel
theorem dX_told_93 : decode bX_told 93 = .ok (.getfield 42, 3) := by decide +kernel
theorem dX_told_96 : decode bX_told 96 = .ok (.iload 4, 2) := by decide +kernel
theorem dX_told_98 : decode bX_told 98 = .ok (.laload, 1) := by decide +kernel
theorem dX_told_99 : decode bX_told 99 = .ok (.lreturn, 1) := by decide +kernel
theorem dX_told_100 : decode bX_told 100 = .ok (.new 45, 3) := by decide +kernel
theorem dX_told_103 : decode bX_told 103 = .ok (.dup, 1) := by decide +kernel
theorem dX_told_104 : decode bX_told 104 = .ok (.ldc 104, 2) := by decide +kernel
theorem dX_told_106 : decode bX_told 106 = .ok (.invokespecial 49, 3) := by decide +kernel
theorem dX_told_109 : decode bX_told 109 = .ok (.athrow, 1) := by decide +kernel
end
section
theorem dM_init_0 : decode bM_init 0 = .ok (.aload_n 0, 1) := by decide +kernel
theorem dM_init_1 : decode bM_init 1 = .ok (.invokespecial 1, 3) := by decide +kernel
theorem dM_init_4 : decode bM_init 4 = .ok (.aload_n 0, 1) := by decide +kernel
theorem dM_init_5 : decode bM_init 5 = .ok (.iconst 1, 1) := by decide +kernel
theorem dM_init_6 : decode bM_init 6 = .ok (.putfield 7, 3) := by decide +kernel
theorem dM_init_9 : decode bM_init 9 = .ok (.aload_n 0, 1) := by decide +kernel
theorem dM_init_10 : decode bM_init 10 = .ok (.sipush 8000, 3) := by decide +kernel
theorem dM_init_13 : decode bM_init 13 = .ok (.newarray .int, 2) := by decide +kernel
theorem dM_init_15 : decode bM_init 15 = .ok (.putfield 13, 3) := by decide +kernel
theorem dM_init_18 : decode bM_init 18 = .ok (.aload_n 0, 1) := by decide +kernel
theorem dM_init_19 : decode bM_init 19 = .ok (.sipush 1000, 3) := by decide +kernel
theorem dM_init_22 : decode bM_init 22 = .ok (.newarray .long, 2) := by decide +kernel
theorem dM_init_24 : decode bM_init 24 = .ok (.putfield 17, 3) := by decide +kernel
theorem dM_init_27 : decode bM_init 27 = .ok (.aload_n 0, 1) := by decide +kernel
theorem dM_init_28 : decode bM_init 28 = .ok (.sipush 8000, 3) := by decide +kernel
theorem dM_init_31 : decode bM_init 31 = .ok (.newarray .long, 2) := by decide +kernel
theorem dM_init_33 : decode bM_init 33 = .ok (.putfield 21, 3) := by decide +kernel
theorem dM_init_36 : decode bM_init 36 = .ok (.aload_n 0, 1) := by decide +kernel
theorem dM_init_37 : decode bM_init 37 = .ok (.sipush 8000, 3) := by decide +kernel
theorem dM_init_40 : decode bM_init 40 = .ok (.newarray .long, 2) := by decide +kernel
theorem dM_init_42 : decode bM_init 42 = .ok (.putfield 24, 3) := by decide +kernel
theorem dM_init_45 : decode bM_init 45 = .ok (.aload_n 0, 1) := by decide +kernel
theorem dM_init_46 : decode bM_init 46 = .ok (.sipush 8000, 3) := by decide +kernel
theorem dM_init_49 : decode bM_init 49 = .ok (.newarray .long, 2) := by decide +kernel
theorem dM_init_51 : decode bM_init 51 = .ok (.putfield 27, 3) := by decide +kernel
theorem dM_init_54 : decode bM_init 54 = .ok (.aload_n 0, 1) := by decide +kernel
theorem dM_init_55 : decode bM_init 55 = .ok (.bipush 8, 2) := by decide +kernel
theorem dM_init_57 : decode bM_init 57 = .ok (.newarray .int, 2) := by decide +kernel
theorem dM_init_59 : decode bM_init 59 = .ok (.putfield 30, 3) := by decide +kernel
theorem dM_init_62 : decode bM_init 62 = .ok (.aload_n 0, 1) := by decide +kernel
theorem dM_init_63 : decode bM_init 63 = .ok (.bipush 8, 2) := by decide +kernel
theorem dM_init_65 : decode bM_init 65 = .ok (.newarray .long, 2) := by decide +kernel
theorem dM_init_67 : decode bM_init 67 = .ok (.putfield 33, 3) := by decide +kernel
theorem dM_init_70 : decode bM_init 70 = .ok (.return_, 1) := by decide +kernel
theorem dM_thrown_0 : decode bM_thrown 0 = .ok (.aload_n 0, 1) := by decide +kernel
theorem dM_thrown_1 : decode bM_thrown 1 = .ok (.getfield 36, 3) := by decide +kernel
theorem dM_thrown_4 : decode bM_thrown 4 = .ok (.ireturn, 1) := by decide +kernel
theorem dM_begin_0 : decode bM_begin 0 = .ok (.aload_n 0, 1) := by decide +kernel
theorem dM_begin_1 : decode bM_begin 1 = .ok (.iload_n 1, 1) := by decide +kernel
theorem dM_begin_2 : decode bM_begin 2 = .ok (.ifCond .lt 20, 3) := by decide +kernel
theorem dM_begin_5 : decode bM_begin 5 = .ok (.iload_n 1, 1) := by decide +kernel
theorem dM_begin_6 : decode bM_begin 6 = .ok (.bipush 8, 2) := by decide +kernel
theorem dM_begin_8 : decode bM_begin 8 = .ok (.if_icmp .gt 14, 3) := by decide +kernel
theorem dM_begin_11 : decode bM_begin 11 = .ok (.iload_n 2, 1) := by decide +kernel
theorem dM_begin_12 : decode bM_begin 12 = .ok (.iconst 1, 1) := by decide +kernel
theorem dM_begin_13 : decode bM_begin 13 = .ok (.if_icmp .lt 9, 3) := by decide +kernel
theorem dM_begin_16 : decode bM_begin 16 = .ok (.iload_n 2, 1) := by decide +kernel
theorem dM_begin_17 : decode bM_begin 17 = .ok (.bipush 8, 2) := by decide +kernel
theorem dM_begin_19 : decode bM_begin 19 = .ok (.if_icmp .le 7, 3) := by decide +kernel
theorem dM_begin_22 : decode bM_begin 22 = .ok (.iconst 1, 1) := by decide +kernel
theorem dM_begin_23 : decode bM_begin 23 = .ok (.goto 4, 3) := by decide +kernel
theorem dM_begin_26 : decode bM_begin 26 = .ok (.iconst 0, 1) := by decide +kernel
theorem dM_begin_27 : decode bM_begin 27 = .ok (.putfield 36, 3) := by decide +kernel
theorem dM_begin_30 : decode bM_begin 30 = .ok (.aload_n 0, 1) := by decide +kernel
theorem dM_begin_31 : decode bM_begin 31 = .ok (.getfield 36, 3) := by decide +kernel
theorem dM_begin_34 : decode bM_begin 34 = .ok (.ifCond .le 4, 3) := by decide +kernel
theorem dM_begin_37 : decode bM_begin 37 = .ok (.return_, 1) := by decide +kernel
theorem dM_begin_38 : decode bM_begin 38 = .ok (.aload_n 0, 1) := by decide +kernel
theorem dM_begin_39 : decode bM_begin 39 = .ok (.iload_n 1, 1) := by decide +kernel
theorem dM_begin_40 : decode bM_begin 40 = .ok (.putfield 39, 3) := by decide +kernel
theorem dM_begin_43 : decode bM_begin 43 = .ok (.aload_n 0, 1) := by decide +kernel
theorem dM_begin_44 : decode bM_begin 44 = .ok (.iload_n 2, 1) := by decide +kernel
theorem dM_begin_45 : decode bM_begin 45 = .ok (.putfield 7, 3) := by decide +kernel
theorem dM_begin_48 : decode bM_begin 48 = .ok (.aload_n 0, 1) := by decide +kernel
theorem dM_begin_49 : decode bM_begin 49 = .ok (.iconst 0, 1) := by decide +kernel
theorem dM_begin_50 : decode bM_begin 50 = .ok (.putfield 42, 3) := by decide +kernel
theorem dM_begin_53 : decode bM_begin 53 = .ok (.iconst 0, 1) := by decide +kernel
theorem dM_begin_54 : decode bM_begin 54 = .ok (.istore_n 3, 1) := by decide +kernel
theorem dM_begin_55 : decode bM_begin 55 = .ok (.iload_n 3, 1) := by decide +kernel
theorem dM_begin_56 : decode bM_begin 56 = .ok (.bipush 8, 2) := by decide +kernel
theorem dM_begin_58 : decode bM_begin 58 = .ok (.if_icmp .ge 23, 3) := by decide +kernel
theorem dM_begin_61 : decode bM_begin 61 = .ok (.aload_n 0, 1) := by decide +kernel
theorem dM_begin_62 : decode bM_begin 62 = .ok (.getfield 30, 3) := by decide +kernel
theorem dM_begin_65 : decode bM_begin 65 = .ok (.iload_n 3, 1) := by decide +kernel
theorem dM_begin_66 : decode bM_begin 66 = .ok (.iconst 0, 1) := by decide +kernel
theorem dM_begin_67 : decode bM_begin 67 = .ok (.iastore, 1) := by decide +kernel
theorem dM_begin_68 : decode bM_begin 68 = .ok (.aload_n 0, 1) := by decide +kernel
theorem dM_begin_69 : decode bM_begin 69 = .ok (.getfield 33, 3) := by decide +kernel
theorem dM_begin_72 : decode bM_begin 72 = .ok (.iload_n 3, 1) := by decide +kernel
theorem dM_begin_73 : decode bM_begin 73 = .ok (.lconst 0, 1) := by decide +kernel
theorem dM_begin_74 : decode bM_begin 74 = .ok (.lastore, 1) := by decide +kernel
theorem dM_begin_75 : decode bM_begin 75 = .ok (.iinc 3 1, 3) := by decide +kernel
theorem dM_begin_78 : decode bM_begin 78 = .ok (.goto (-23), 3) := by decide +kernel
theorem dM_begin_81 : decode bM_begin 81 = .ok (.return_, 1) := by decide +kernel
theorem dM_key_0 : decode bM_key 0 = .ok (.aload_n 0, 1) := by decide +kernel
theorem dM_key_1 : decode bM_key 1 = .ok (.iload_n 1, 1) := by decide +kernel
theorem dM_key_2 : decode bM_key 2 = .ok (.ifCond .lt 11, 3) := by decide +kernel
theorem dM_key_5 : decode bM_key 5 = .ok (.iload_n 1, 1) := by decide +kernel
theorem dM_key_6 : decode bM_key 6 = .ok (.aload_n 0, 1) := by decide +kernel
theorem dM_key_7 : decode bM_key 7 = .ok (.getfield 39, 3) := by decide +kernel
theorem dM_key_10 : decode bM_key 10 = .ok (.if_icmp .lt 7, 3) := by decide +kernel
theorem dM_key_13 : decode bM_key 13 = .ok (.iconst 1, 1) := by decide +kernel
theorem dM_key_14 : decode bM_key 14 = .ok (.goto 4, 3) := by decide +kernel
theorem dM_key_17 : decode bM_key 17 = .ok (.iconst 0, 1) := by decide +kernel
theorem dM_key_18 : decode bM_key 18 = .ok (.putfield 36, 3) := by decide +kernel
theorem dM_key_21 : decode bM_key 21 = .ok (.aload_n 0, 1) := by decide +kernel
theorem dM_key_22 : decode bM_key 22 = .ok (.getfield 36, 3) := by decide +kernel
theorem dM_key_25 : decode bM_key 25 = .ok (.ifCond .le 5, 3) := by decide +kernel
theorem dM_key_28 : decode bM_key 28 = .ok (.iconst 0, 1) := by decide +kernel
theorem dM_key_29 : decode bM_key 29 = .ok (.ireturn, 1) := by decide +kernel
theorem dM_key_30 : decode bM_key 30 = .ok (.aload_n 0, 1) := by decide +kernel
theorem dM_key_31 : decode bM_key 31 = .ok (.getfield 30, 3) := by decide +kernel
theorem dM_key_34 : decode bM_key 34 = .ok (.iload_n 1, 1) := by decide +kernel
theorem dM_key_35 : decode bM_key 35 = .ok (.iaload, 1) := by decide +kernel
theorem dM_key_36 : decode bM_key 36 = .ok (.istore_n 3, 1) := by decide +kernel
theorem dM_key_37 : decode bM_key 37 = .ok (.aload_n 0, 1) := by decide +kernel
theorem dM_key_38 : decode bM_key 38 = .ok (.getfield 30, 3) := by decide +kernel
theorem dM_key_41 : decode bM_key 41 = .ok (.iload_n 1, 1) := by decide +kernel
theorem dM_key_42 : decode bM_key 42 = .ok (.iload_n 2, 1) := by decide +kernel
theorem dM_key_43 : decode bM_key 43 = .ok (.iastore, 1) := by decide +kernel
theorem dM_key_44 : decode bM_key 44 = .ok (.iload_n 3, 1) := by decide +kernel
theorem dM_key_45 : decode bM_key 45 = .ok (.ireturn, 1) := by decide +kernel
theorem dM_amount_0 : decode bM_amount 0 = .ok (.aload_n 0, 1) := by decide +kernel
theorem dM_amount_1 : decode bM_amount 1 = .ok (.iload_n 1, 1) := by decide +kernel
theorem dM_amount_2 : decode bM_amount 2 = .ok (.ifCond .lt 11, 3) := by decide +kernel
theorem dM_amount_5 : decode bM_amount 5 = .ok (.iload_n 1, 1) := by decide +kernel
theorem dM_amount_6 : decode bM_amount 6 = .ok (.aload_n 0, 1) := by decide +kernel
theorem dM_amount_7 : decode bM_amount 7 = .ok (.getfield 7, 3) := by decide +kernel
theorem dM_amount_10 : decode bM_amount 10 = .ok (.if_icmp .lt 7, 3) := by decide +kernel
theorem dM_amount_13 : decode bM_amount 13 = .ok (.iconst 1, 1) := by decide +kernel
theorem dM_amount_14 : decode bM_amount 14 = .ok (.goto 4, 3) := by decide +kernel
theorem dM_amount_17 : decode bM_amount 17 = .ok (.iconst 0, 1) := by decide +kernel
theorem dM_amount_18 : decode bM_amount 18 = .ok (.putfield 36, 3) := by decide +kernel
theorem dM_amount_21 : decode bM_amount 21 = .ok (.aload_n 0, 1) := by decide +kernel
theorem dM_amount_22 : decode bM_amount 22 = .ok (.getfield 36, 3) := by decide +kernel
theorem dM_amount_25 : decode bM_amount 25 = .ok (.ifCond .le 5, 3) := by decide +kernel
theorem dM_amount_28 : decode bM_amount 28 = .ok (.lconst 0, 1) := by decide +kernel
theorem dM_amount_29 : decode bM_amount 29 = .ok (.lreturn, 1) := by decide +kernel
theorem dM_amount_30 : decode bM_amount 30 = .ok (.aload_n 0, 1) := by decide +kernel
theorem dM_amount_31 : decode bM_amount 31 = .ok (.getfield 33, 3) := by decide +kernel
theorem dM_amount_34 : decode bM_amount 34 = .ok (.iload_n 1, 1) := by decide +kernel
theorem dM_amount_35 : decode bM_amount 35 = .ok (.laload, 1) := by decide +kernel
theorem dM_amount_36 : decode bM_amount 36 = .ok (.lstore 4, 2) := by decide +kernel
theorem dM_amount_38 : decode bM_amount 38 = .ok (.aload_n 0, 1) := by decide +kernel
theorem dM_amount_39 : decode bM_amount 39 = .ok (.getfield 33, 3) := by decide +kernel
theorem dM_amount_42 : decode bM_amount 42 = .ok (.iload_n 1, 1) := by decide +kernel
theorem dM_amount_43 : decode bM_amount 43 = .ok (.lload_n 2, 1) := by decide +kernel
theorem dM_amount_44 : decode bM_amount 44 = .ok (.lastore, 1) := by decide +kernel
theorem dM_amount_45 : decode bM_amount 45 = .ok (.lload 4, 2) := by decide +kernel
theorem dM_amount_47 : decode bM_amount 47 = .ok (.lreturn, 1) := by decide +kernel
theorem dM_add_0 : decode bM_add 0 = .ok (.aload_n 0, 1) := by decide +kernel
theorem dM_add_1 : decode bM_add 1 = .ok (.iload_n 1, 1) := by decide +kernel
theorem dM_add_2 : decode bM_add 2 = .ok (.iconst 1, 1) := by decide +kernel
theorem dM_add_3 : decode bM_add 3 = .ok (.if_icmp .lt 9, 3) := by decide +kernel
theorem dM_add_6 : decode bM_add 6 = .ok (.iload_n 1, 1) := by decide +kernel
theorem dM_add_7 : decode bM_add 7 = .ok (.ldc 57, 2) := by decide +kernel
theorem dM_add_9 : decode bM_add 9 = .ok (.if_icmp .le 7, 3) := by decide +kernel
theorem dM_add_12 : decode bM_add 12 = .ok (.iconst 1, 1) := by decide +kernel
theorem dM_add_13 : decode bM_add 13 = .ok (.goto 4, 3) := by decide +kernel
theorem dM_add_16 : decode bM_add 16 = .ok (.iconst 0, 1) := by decide +kernel
theorem dM_add_17 : decode bM_add 17 = .ok (.putfield 36, 3) := by decide +kernel
theorem dM_add_20 : decode bM_add 20 = .ok (.aload_n 0, 1) := by decide +kernel
theorem dM_add_21 : decode bM_add 21 = .ok (.getfield 36, 3) := by decide +kernel
theorem dM_add_24 : decode bM_add 24 = .ok (.ifCond .le 5, 3) := by decide +kernel
theorem dM_add_27 : decode bM_add 27 = .ok (.iconst 0, 1) := by decide +kernel
theorem dM_add_28 : decode bM_add 28 = .ok (.ireturn, 1) := by decide +kernel
theorem dM_add_29 : decode bM_add 29 = .ok (.aload_n 0, 1) := by decide +kernel
theorem dM_add_30 : decode bM_add 30 = .ok (.iload_n 1, 1) := by decide +kernel
theorem dM_add_31 : decode bM_add 31 = .ok (.invokevirtual 58, 3) := by decide +kernel
theorem dM_add_34 : decode bM_add 34 = .ok (.ifCond .eq 10, 3) := by decide +kernel
theorem dM_add_37 : decode bM_add 37 = .ok (.aload_n 0, 1) := by decide +kernel
theorem dM_add_38 : decode bM_add 38 = .ok (.getfield 42, 3) := by decide +kernel
theorem dM_add_41 : decode bM_add 41 = .ok (.goto 5, 3) := by decide +kernel
theorem dM_add_44 : decode bM_add 44 = .ok (.bipush (-2), 2) := by decide +kernel
theorem dM_add_46 : decode bM_add 46 = .ok (.ireturn, 1) := by decide +kernel
theorem dM_comes_0 : decode bM_comes 0 = .ok (.aload_n 0, 1) := by decide +kernel
theorem dM_comes_1 : decode bM_comes 1 = .ok (.invokevirtual 49, 3) := by decide +kernel
theorem dM_comes_4 : decode bM_comes 4 = .ok (.istore_n 2, 1) := by decide +kernel
theorem dM_comes_5 : decode bM_comes 5 = .ok (.iload_n 2, 1) := by decide +kernel
theorem dM_comes_6 : decode bM_comes 6 = .ok (.aload_n 0, 1) := by decide +kernel
theorem dM_comes_7 : decode bM_comes 7 = .ok (.getfield 42, 3) := by decide +kernel
theorem dM_comes_10 : decode bM_comes 10 = .ok (.if_icmp .ge 15, 3) := by decide +kernel
theorem dM_comes_13 : decode bM_comes 13 = .ok (.aload_n 0, 1) := by decide +kernel
theorem dM_comes_14 : decode bM_comes 14 = .ok (.iload_n 2, 1) := by decide +kernel
theorem dM_comes_15 : decode bM_comes 15 = .ok (.invokevirtual 45, 3) := by decide +kernel
theorem dM_comes_18 : decode bM_comes 18 = .ok (.ifCond .ne 7, 3) := by decide +kernel
theorem dM_comes_21 : decode bM_comes 21 = .ok (.iconst 1, 1) := by decide +kernel
theorem dM_comes_22 : decode bM_comes 22 = .ok (.goto 4, 3) := by decide +kernel
theorem dM_comes_25 : decode bM_comes 25 = .ok (.iconst 0, 1) := by decide +kernel
theorem dM_comes_26 : decode bM_comes 26 = .ok (.istore_n 3, 1) := by decide +kernel
theorem dM_comes_27 : decode bM_comes 27 = .ok (.iload_n 3, 1) := by decide +kernel
theorem dM_comes_28 : decode bM_comes 28 = .ok (.ifCond .ne 15, 3) := by decide +kernel
theorem dM_comes_31 : decode bM_comes 31 = .ok (.aload_n 0, 1) := by decide +kernel
theorem dM_comes_32 : decode bM_comes 32 = .ok (.getfield 42, 3) := by decide +kernel
theorem dM_comes_35 : decode bM_comes 35 = .ok (.sipush 1000, 3) := by decide +kernel
theorem dM_comes_38 : decode bM_comes 38 = .ok (.if_icmp .ne 5, 3) := by decide +kernel
theorem dM_comes_41 : decode bM_comes 41 = .ok (.iconst 0, 1) := by decide +kernel
theorem dM_comes_42 : decode bM_comes 42 = .ok (.ireturn, 1) := by decide +kernel
theorem dM_comes_43 : decode bM_comes 43 = .ok (.iload_n 3, 1) := by decide +kernel
theorem dM_comes_44 : decode bM_comes 44 = .ok (.ifCond .ne 134, 3) := by decide +kernel
theorem dM_comes_47 : decode bM_comes 47 = .ok (.aload_n 0, 1) := by decide +kernel
theorem dM_comes_48 : decode bM_comes 48 = .ok (.getfield 42, 3) := by decide +kernel
theorem dM_comes_51 : decode bM_comes 51 = .ok (.istore 4, 2) := by decide +kernel
theorem dM_comes_53 : decode bM_comes 53 = .ok (.iload 4, 2) := by decide +kernel
theorem dM_comes_55 : decode bM_comes 55 = .ok (.iload_n 2, 1) := by decide +kernel
theorem dM_comes_56 : decode bM_comes 56 = .ok (.if_icmp .le 19, 3) := by decide +kernel
theorem dM_comes_59 : decode bM_comes 59 = .ok (.aload_n 0, 1) := by decide +kernel
theorem dM_comes_60 : decode bM_comes 60 = .ok (.iload 4, 2) := by decide +kernel
theorem dM_comes_62 : decode bM_comes 62 = .ok (.iconst 1, 1) := by decide +kernel
theorem dM_comes_63 : decode bM_comes 63 = .ok (.isub, 1) := by decide +kernel
theorem dM_comes_64 : decode bM_comes 64 = .ok (.iload 4, 2) := by decide +kernel
theorem dM_comes_66 : decode bM_comes 66 = .ok (.invokevirtual 53, 3) := by decide +kernel
theorem dM_comes_69 : decode bM_comes 69 = .ok (.iinc 4 (-1), 3) := by decide +kernel
theorem dM_comes_72 : decode bM_comes 72 = .ok (.goto (-19), 3) := by decide +kernel
theorem dM_comes_75 : decode bM_comes 75 = .ok (.aload_n 0, 1) := by decide +kernel
theorem dM_comes_76 : decode bM_comes 76 = .ok (.dup, 1) := by decide +kernel
theorem dM_comes_77 : decode bM_comes 77 = .ok (.getfield 42, 3) := by decide +kernel
theorem dM_comes_80 : decode bM_comes 80 = .ok (.iconst 1, 1) := by decide +kernel
theorem dM_comes_81 : decode bM_comes 81 = .ok (.iadd, 1) := by decide +kernel
theorem dM_comes_82 : decode bM_comes 82 = .ok (.putfield 42, 3) := by decide +kernel
theorem dM_comes_85 : decode bM_comes 85 = .ok (.aload_n 0, 1) := by decide +kernel
theorem dM_comes_86 : decode bM_comes 86 = .ok (.getfield 17, 3) := by decide +kernel
theorem dM_comes_89 : decode bM_comes 89 = .ok (.iload_n 2, 1) := by decide +kernel
theorem dM_comes_90 : decode bM_comes 90 = .ok (.lconst 0, 1) := by decide +kernel
theorem dM_comes_91 : decode bM_comes 91 = .ok (.lastore, 1) := by decide +kernel
theorem dM_comes_92 : decode bM_comes 92 = .ok (.iconst 0, 1) := by decide +kernel
theorem dM_comes_93 : decode bM_comes 93 = .ok (.istore 4, 2) := by decide +kernel
theorem dM_comes_95 : decode bM_comes 95 = .ok (.iload 4, 2) := by decide +kernel
theorem dM_comes_97 : decode bM_comes 97 = .ok (.bipush 8, 2) := by decide +kernel
theorem dM_comes_99 : decode bM_comes 99 = .ok (.if_icmp .ge 79, 3) := by decide +kernel
theorem dM_comes_102 : decode bM_comes 102 = .ok (.aload_n 0, 1) := by decide +kernel
theorem dM_comes_103 : decode bM_comes 103 = .ok (.getfield 13, 3) := by decide +kernel
theorem dM_comes_106 : decode bM_comes 106 = .ok (.bipush 8, 2) := by decide +kernel
theorem dM_comes_108 : decode bM_comes 108 = .ok (.iload_n 2, 1) := by decide +kernel
theorem dM_comes_109 : decode bM_comes 109 = .ok (.imul, 1) := by decide +kernel
theorem dM_comes_110 : decode bM_comes 110 = .ok (.iload 4, 2) := by decide +kernel
theorem dM_comes_112 : decode bM_comes 112 = .ok (.iadd, 1) := by decide +kernel
theorem dM_comes_113 : decode bM_comes 113 = .ok (.aload_n 0, 1) := by decide +kernel
theorem dM_comes_114 : decode bM_comes 114 = .ok (.getfield 30, 3) := by decide +kernel
theorem dM_comes_117 : decode bM_comes 117 = .ok (.iload 4, 2) := by decide +kernel
theorem dM_comes_119 : decode bM_comes 119 = .ok (.iaload, 1) := by decide +kernel
theorem dM_comes_120 : decode bM_comes 120 = .ok (.iastore, 1) := by decide +kernel
theorem dM_comes_121 : decode bM_comes 121 = .ok (.aload_n 0, 1) := by decide +kernel
theorem dM_comes_122 : decode bM_comes 122 = .ok (.getfield 21, 3) := by decide +kernel
theorem dM_comes_125 : decode bM_comes 125 = .ok (.bipush 8, 2) := by decide +kernel
theorem dM_comes_127 : decode bM_comes 127 = .ok (.iload_n 2, 1) := by decide +kernel
theorem dM_comes_128 : decode bM_comes 128 = .ok (.imul, 1) := by decide +kernel
theorem dM_comes_129 : decode bM_comes 129 = .ok (.iload 4, 2) := by decide +kernel
theorem dM_comes_131 : decode bM_comes 131 = .ok (.iadd, 1) := by decide +kernel
theorem dM_comes_132 : decode bM_comes 132 = .ok (.lconst 0, 1) := by decide +kernel
theorem dM_comes_133 : decode bM_comes 133 = .ok (.lastore, 1) := by decide +kernel
theorem dM_comes_134 : decode bM_comes 134 = .ok (.aload_n 0, 1) := by decide +kernel
theorem dM_comes_135 : decode bM_comes 135 = .ok (.getfield 24, 3) := by decide +kernel
theorem dM_comes_138 : decode bM_comes 138 = .ok (.bipush 8, 2) := by decide +kernel
theorem dM_comes_140 : decode bM_comes 140 = .ok (.iload_n 2, 1) := by decide +kernel
theorem dM_comes_141 : decode bM_comes 141 = .ok (.imul, 1) := by decide +kernel
theorem dM_comes_142 : decode bM_comes 142 = .ok (.iload 4, 2) := by decide +kernel
theorem dM_comes_144 : decode bM_comes 144 = .ok (.iadd, 1) := by decide +kernel
theorem dM_comes_145 : decode bM_comes 145 = .ok (.aload_n 0, 1) := by decide +kernel
theorem dM_comes_146 : decode bM_comes 146 = .ok (.getfield 33, 3) := by decide +kernel
theorem dM_comes_149 : decode bM_comes 149 = .ok (.iload 4, 2) := by decide +kernel
theorem dM_comes_151 : decode bM_comes 151 = .ok (.laload, 1) := by decide +kernel
theorem dM_comes_152 : decode bM_comes 152 = .ok (.lastore, 1) := by decide +kernel
theorem dM_comes_153 : decode bM_comes 153 = .ok (.aload_n 0, 1) := by decide +kernel
theorem dM_comes_154 : decode bM_comes 154 = .ok (.getfield 27, 3) := by decide +kernel
theorem dM_comes_157 : decode bM_comes 157 = .ok (.bipush 8, 2) := by decide +kernel
theorem dM_comes_159 : decode bM_comes 159 = .ok (.iload_n 2, 1) := by decide +kernel
theorem dM_comes_160 : decode bM_comes 160 = .ok (.imul, 1) := by decide +kernel
theorem dM_comes_161 : decode bM_comes 161 = .ok (.iload 4, 2) := by decide +kernel
theorem dM_comes_163 : decode bM_comes 163 = .ok (.iadd, 1) := by decide +kernel
theorem dM_comes_164 : decode bM_comes 164 = .ok (.aload_n 0, 1) := by decide +kernel
theorem dM_comes_165 : decode bM_comes 165 = .ok (.getfield 33, 3) := by decide +kernel
theorem dM_comes_168 : decode bM_comes 168 = .ok (.iload 4, 2) := by decide +kernel
theorem dM_comes_170 : decode bM_comes 170 = .ok (.laload, 1) := by decide +kernel
theorem dM_comes_171 : decode bM_comes 171 = .ok (.lastore, 1) := by decide +kernel
theorem dM_comes_172 : decode bM_comes 172 = .ok (.iinc 4 1, 3) := by decide +kernel
theorem dM_comes_175 : decode bM_comes 175 = .ok (.goto (-80), 3) := by decide +kernel
theorem dM_comes_178 : decode bM_comes 178 = .ok (.aload_n 0, 1) := by decide +kernel
theorem dM_comes_179 : decode bM_comes 179 = .ok (.getfield 17, 3) := by decide +kernel
theorem dM_comes_182 : decode bM_comes 182 = .ok (.iload_n 2, 1) := by decide +kernel
theorem dM_comes_183 : decode bM_comes 183 = .ok (.dup2, 1) := by decide +kernel
theorem dM_comes_184 : decode bM_comes 184 = .ok (.laload, 1) := by decide +kernel
theorem dM_comes_185 : decode bM_comes 185 = .ok (.iload_n 1, 1) := by decide +kernel
theorem dM_comes_186 : decode bM_comes 186 = .ok (.i2l, 1) := by decide +kernel
theorem dM_comes_187 : decode bM_comes 187 = .ok (.ladd, 1) := by decide +kernel
theorem dM_comes_188 : decode bM_comes 188 = .ok (.lastore, 1) := by decide +kernel
theorem dM_comes_189 : decode bM_comes 189 = .ok (.iconst 0, 1) := by decide +kernel
theorem dM_comes_190 : decode bM_comes 190 = .ok (.istore 4, 2) := by decide +kernel
theorem dM_comes_192 : decode bM_comes 192 = .ok (.iload 4, 2) := by decide +kernel
theorem dM_comes_194 : decode bM_comes 194 = .ok (.aload_n 0, 1) := by decide +kernel
theorem dM_comes_195 : decode bM_comes 195 = .ok (.getfield 7, 3) := by decide +kernel
theorem dM_comes_198 : decode bM_comes 198 = .ok (.if_icmp .ge 132, 3) := by decide +kernel
theorem dM_comes_201 : decode bM_comes 201 = .ok (.aload_n 0, 1) := by decide +kernel
theorem dM_comes_202 : decode bM_comes 202 = .ok (.getfield 33, 3) := by decide +kernel
theorem dM_comes_205 : decode bM_comes 205 = .ok (.iload 4, 2) := by decide +kernel
theorem dM_comes_207 : decode bM_comes 207 = .ok (.laload, 1) := by decide +kernel
theorem dM_comes_208 : decode bM_comes 208 = .ok (.lstore 5, 2) := by decide +kernel
theorem dM_comes_210 : decode bM_comes 210 = .ok (.aload_n 0, 1) := by decide +kernel
theorem dM_comes_211 : decode bM_comes 211 = .ok (.getfield 21, 3) := by decide +kernel
theorem dM_comes_214 : decode bM_comes 214 = .ok (.bipush 8, 2) := by decide +kernel
theorem dM_comes_216 : decode bM_comes 216 = .ok (.iload_n 2, 1) := by decide +kernel
theorem dM_comes_217 : decode bM_comes 217 = .ok (.imul, 1) := by decide +kernel
theorem dM_comes_218 : decode bM_comes 218 = .ok (.iload 4, 2) := by decide +kernel
theorem dM_comes_220 : decode bM_comes 220 = .ok (.iadd, 1) := by decide +kernel
theorem dM_comes_221 : decode bM_comes 221 = .ok (.dup2, 1) := by decide +kernel
theorem dM_comes_222 : decode bM_comes 222 = .ok (.laload, 1) := by decide +kernel
theorem dM_comes_223 : decode bM_comes 223 = .ok (.iload_n 1, 1) := by decide +kernel
theorem dM_comes_224 : decode bM_comes 224 = .ok (.i2l, 1) := by decide +kernel
theorem dM_comes_225 : decode bM_comes 225 = .ok (.lload 5, 2) := by decide +kernel
theorem dM_comes_227 : decode bM_comes 227 = .ok (.lmul, 1) := by decide +kernel
theorem dM_comes_228 : decode bM_comes 228 = .ok (.ladd, 1) := by decide +kernel
theorem dM_comes_229 : decode bM_comes 229 = .ok (.lastore, 1) := by decide +kernel
theorem dM_comes_230 : decode bM_comes 230 = .ok (.aload_n 0, 1) := by decide +kernel
theorem dM_comes_231 : decode bM_comes 231 = .ok (.getfield 24, 3) := by decide +kernel
theorem dM_comes_234 : decode bM_comes 234 = .ok (.bipush 8, 2) := by decide +kernel
theorem dM_comes_236 : decode bM_comes 236 = .ok (.iload_n 2, 1) := by decide +kernel
theorem dM_comes_237 : decode bM_comes 237 = .ok (.imul, 1) := by decide +kernel
theorem dM_comes_238 : decode bM_comes 238 = .ok (.iload 4, 2) := by decide +kernel
theorem dM_comes_240 : decode bM_comes 240 = .ok (.iadd, 1) := by decide +kernel
theorem dM_comes_241 : decode bM_comes 241 = .ok (.lload 5, 2) := by decide +kernel
theorem dM_comes_243 : decode bM_comes 243 = .ok (.aload_n 0, 1) := by decide +kernel
theorem dM_comes_244 : decode bM_comes 244 = .ok (.getfield 24, 3) := by decide +kernel
theorem dM_comes_247 : decode bM_comes 247 = .ok (.bipush 8, 2) := by decide +kernel
theorem dM_comes_249 : decode bM_comes 249 = .ok (.iload_n 2, 1) := by decide +kernel
theorem dM_comes_250 : decode bM_comes 250 = .ok (.imul, 1) := by decide +kernel
theorem dM_comes_251 : decode bM_comes 251 = .ok (.iload 4, 2) := by decide +kernel
theorem dM_comes_253 : decode bM_comes 253 = .ok (.iadd, 1) := by decide +kernel
theorem dM_comes_254 : decode bM_comes 254 = .ok (.laload, 1) := by decide +kernel
theorem dM_comes_255 : decode bM_comes 255 = .ok (.lcmp, 1) := by decide +kernel
theorem dM_comes_256 : decode bM_comes 256 = .ok (.ifCond .ge 8, 3) := by decide +kernel
theorem dM_comes_259 : decode bM_comes 259 = .ok (.lload 5, 2) := by decide +kernel
theorem dM_comes_261 : decode bM_comes 261 = .ok (.goto 15, 3) := by decide +kernel
theorem dM_comes_264 : decode bM_comes 264 = .ok (.aload_n 0, 1) := by decide +kernel
theorem dM_comes_265 : decode bM_comes 265 = .ok (.getfield 24, 3) := by decide +kernel
theorem dM_comes_268 : decode bM_comes 268 = .ok (.bipush 8, 2) := by decide +kernel
theorem dM_comes_270 : decode bM_comes 270 = .ok (.iload_n 2, 1) := by decide +kernel
theorem dM_comes_271 : decode bM_comes 271 = .ok (.imul, 1) := by decide +kernel
theorem dM_comes_272 : decode bM_comes 272 = .ok (.iload 4, 2) := by decide +kernel
theorem dM_comes_274 : decode bM_comes 274 = .ok (.iadd, 1) := by decide +kernel
theorem dM_comes_275 : decode bM_comes 275 = .ok (.laload, 1) := by decide +kernel
theorem dM_comes_276 : decode bM_comes 276 = .ok (.lastore, 1) := by decide +kernel
theorem dM_comes_277 : decode bM_comes 277 = .ok (.aload_n 0, 1) := by decide +kernel
theorem dM_comes_278 : decode bM_comes 278 = .ok (.getfield 27, 3) := by decide +kernel
theorem dM_comes_281 : decode bM_comes 281 = .ok (.bipush 8, 2) := by decide +kernel
theorem dM_comes_283 : decode bM_comes 283 = .ok (.iload_n 2, 1) := by decide +kernel
theorem dM_comes_284 : decode bM_comes 284 = .ok (.imul, 1) := by decide +kernel
theorem dM_comes_285 : decode bM_comes 285 = .ok (.iload 4, 2) := by decide +kernel
theorem dM_comes_287 : decode bM_comes 287 = .ok (.iadd, 1) := by decide +kernel
theorem dM_comes_288 : decode bM_comes 288 = .ok (.lload 5, 2) := by decide +kernel
theorem dM_comes_290 : decode bM_comes 290 = .ok (.aload_n 0, 1) := by decide +kernel
theorem dM_comes_291 : decode bM_comes 291 = .ok (.getfield 27, 3) := by decide +kernel
theorem dM_comes_294 : decode bM_comes 294 = .ok (.bipush 8, 2) := by decide +kernel
theorem dM_comes_296 : decode bM_comes 296 = .ok (.iload_n 2, 1) := by decide +kernel
theorem dM_comes_297 : decode bM_comes 297 = .ok (.imul, 1) := by decide +kernel
theorem dM_comes_298 : decode bM_comes 298 = .ok (.iload 4, 2) := by decide +kernel
theorem dM_comes_300 : decode bM_comes 300 = .ok (.iadd, 1) := by decide +kernel
theorem dM_comes_301 : decode bM_comes 301 = .ok (.laload, 1) := by decide +kernel
theorem dM_comes_302 : decode bM_comes 302 = .ok (.lcmp, 1) := by decide +kernel
theorem dM_comes_303 : decode bM_comes 303 = .ok (.ifCond .le 8, 3) := by decide +kernel
theorem dM_comes_306 : decode bM_comes 306 = .ok (.lload 5, 2) := by decide +kernel
theorem dM_comes_308 : decode bM_comes 308 = .ok (.goto 15, 3) := by decide +kernel
theorem dM_comes_311 : decode bM_comes 311 = .ok (.aload_n 0, 1) := by decide +kernel
theorem dM_comes_312 : decode bM_comes 312 = .ok (.getfield 27, 3) := by decide +kernel
theorem dM_comes_315 : decode bM_comes 315 = .ok (.bipush 8, 2) := by decide +kernel
theorem dM_comes_317 : decode bM_comes 317 = .ok (.iload_n 2, 1) := by decide +kernel
theorem dM_comes_318 : decode bM_comes 318 = .ok (.imul, 1) := by decide +kernel
theorem dM_comes_319 : decode bM_comes 319 = .ok (.iload 4, 2) := by decide +kernel
theorem dM_comes_321 : decode bM_comes 321 = .ok (.iadd, 1) := by decide +kernel
theorem dM_comes_322 : decode bM_comes 322 = .ok (.laload, 1) := by decide +kernel
theorem dM_comes_323 : decode bM_comes 323 = .ok (.lastore, 1) := by decide +kernel
theorem dM_comes_324 : decode bM_comes 324 = .ok (.iinc 4 1, 3) := by decide +kernel
theorem dM_comes_327 : decode bM_comes 327 = .ok (.goto (-135), 3) := by decide +kernel
theorem dM_comes_330 : decode bM_comes 330 = .ok (.iconst 1, 1) := by decide +kernel
theorem dM_comes_331 : decode bM_comes 331 = .ok (.ireturn, 1) := by decide +kernel
theorem dM_before_0 : decode bM_before 0 = .ok (.iconst 0, 1) := by decide +kernel
theorem dM_before_1 : decode bM_before 1 = .ok (.istore_n 1, 1) := by decide +kernel
theorem dM_before_2 : decode bM_before 2 = .ok (.iload_n 1, 1) := by decide +kernel
theorem dM_before_3 : decode bM_before 3 = .ok (.aload_n 0, 1) := by decide +kernel
theorem dM_before_4 : decode bM_before 4 = .ok (.getfield 42, 3) := by decide +kernel
theorem dM_before_7 : decode bM_before 7 = .ok (.if_icmp .ge 17, 3) := by decide +kernel
theorem dM_before_10 : decode bM_before 10 = .ok (.aload_n 0, 1) := by decide +kernel
theorem dM_before_11 : decode bM_before 11 = .ok (.iload_n 1, 1) := by decide +kernel
theorem dM_before_12 : decode bM_before 12 = .ok (.invokevirtual 45, 3) := by decide +kernel
theorem dM_before_15 : decode bM_before 15 = .ok (.ifCond .le 9, 3) := by decide +kernel
theorem dM_before_18 : decode bM_before 18 = .ok (.iinc 1 1, 3) := by decide +kernel
theorem dM_before_21 : decode bM_before 21 = .ok (.goto (-19), 3) := by decide +kernel
theorem dM_before_24 : decode bM_before 24 = .ok (.iload_n 1, 1) := by decide +kernel
theorem dM_before_25 : decode bM_before 25 = .ok (.ireturn, 1) := by decide +kernel
theorem dM_against_0 : decode bM_against 0 = .ok (.iconst 0, 1) := by decide +kernel
theorem dM_against_1 : decode bM_against 1 = .ok (.istore_n 2, 1) := by decide +kernel
theorem dM_against_2 : decode bM_against 2 = .ok (.iload_n 2, 1) := by decide +kernel
theorem dM_against_3 : decode bM_against 3 = .ok (.aload_n 0, 1) := by decide +kernel
theorem dM_against_4 : decode bM_against 4 = .ok (.getfield 39, 3) := by decide +kernel
theorem dM_against_7 : decode bM_against 7 = .ok (.if_icmp .ge 55, 3) := by decide +kernel
theorem dM_against_10 : decode bM_against 10 = .ok (.aload_n 0, 1) := by decide +kernel
theorem dM_against_11 : decode bM_against 11 = .ok (.getfield 30, 3) := by decide +kernel
theorem dM_against_14 : decode bM_against 14 = .ok (.iload_n 2, 1) := by decide +kernel
theorem dM_against_15 : decode bM_against 15 = .ok (.iaload, 1) := by decide +kernel
theorem dM_against_16 : decode bM_against 16 = .ok (.aload_n 0, 1) := by decide +kernel
theorem dM_against_17 : decode bM_against 17 = .ok (.getfield 13, 3) := by decide +kernel
theorem dM_against_20 : decode bM_against 20 = .ok (.bipush 8, 2) := by decide +kernel
theorem dM_against_22 : decode bM_against 22 = .ok (.iload_n 1, 1) := by decide +kernel
theorem dM_against_23 : decode bM_against 23 = .ok (.imul, 1) := by decide +kernel
theorem dM_against_24 : decode bM_against 24 = .ok (.iload_n 2, 1) := by decide +kernel
theorem dM_against_25 : decode bM_against 25 = .ok (.iadd, 1) := by decide +kernel
theorem dM_against_26 : decode bM_against 26 = .ok (.iaload, 1) := by decide +kernel
theorem dM_against_27 : decode bM_against 27 = .ok (.if_icmp .eq 29, 3) := by decide +kernel
theorem dM_against_30 : decode bM_against 30 = .ok (.aload_n 0, 1) := by decide +kernel
theorem dM_against_31 : decode bM_against 31 = .ok (.getfield 30, 3) := by decide +kernel
theorem dM_against_34 : decode bM_against 34 = .ok (.iload_n 2, 1) := by decide +kernel
theorem dM_against_35 : decode bM_against 35 = .ok (.iaload, 1) := by decide +kernel
theorem dM_against_36 : decode bM_against 36 = .ok (.aload_n 0, 1) := by decide +kernel
theorem dM_against_37 : decode bM_against 37 = .ok (.getfield 13, 3) := by decide +kernel
theorem dM_against_40 : decode bM_against 40 = .ok (.bipush 8, 2) := by decide +kernel
theorem dM_against_42 : decode bM_against 42 = .ok (.iload_n 1, 1) := by decide +kernel
theorem dM_against_43 : decode bM_against 43 = .ok (.imul, 1) := by decide +kernel
theorem dM_against_44 : decode bM_against 44 = .ok (.iload_n 2, 1) := by decide +kernel
theorem dM_against_45 : decode bM_against 45 = .ok (.iadd, 1) := by decide +kernel
theorem dM_against_46 : decode bM_against 46 = .ok (.iaload, 1) := by decide +kernel
theorem dM_against_47 : decode bM_against 47 = .ok (.if_icmp .ge 7, 3) := by decide +kernel
theorem dM_against_50 : decode bM_against 50 = .ok (.iconst (-1), 1) := by decide +kernel
theorem dM_against_51 : decode bM_against 51 = .ok (.goto 4, 3) := by decide +kernel
theorem dM_against_54 : decode bM_against 54 = .ok (.iconst 1, 1) := by decide +kernel
theorem dM_against_55 : decode bM_against 55 = .ok (.ireturn, 1) := by decide +kernel
theorem dM_against_56 : decode bM_against 56 = .ok (.iinc 2 1, 3) := by decide +kernel
theorem dM_against_59 : decode bM_against 59 = .ok (.goto (-57), 3) := by decide +kernel
theorem dM_against_62 : decode bM_against 62 = .ok (.iconst 0, 1) := by decide +kernel
theorem dM_against_63 : decode bM_against 63 = .ok (.ireturn, 1) := by decide +kernel
theorem dM_copy_0 : decode bM_copy 0 = .ok (.iconst 0, 1) := by decide +kernel
theorem dM_copy_1 : decode bM_copy 1 = .ok (.istore_n 3, 1) := by decide +kernel
theorem dM_copy_2 : decode bM_copy 2 = .ok (.iload_n 3, 1) := by decide +kernel
theorem dM_copy_3 : decode bM_copy 3 = .ok (.bipush 8, 2) := by decide +kernel
theorem dM_copy_5 : decode bM_copy 5 = .ok (.if_icmp .ge 97, 3) := by decide +kernel
theorem dM_copy_8 : decode bM_copy 8 = .ok (.aload_n 0, 1) := by decide +kernel
theorem dM_copy_9 : decode bM_copy 9 = .ok (.getfield 13, 3) := by decide +kernel
theorem dM_copy_12 : decode bM_copy 12 = .ok (.bipush 8, 2) := by decide +kernel
theorem dM_copy_14 : decode bM_copy 14 = .ok (.iload_n 2, 1) := by decide +kernel
theorem dM_copy_15 : decode bM_copy 15 = .ok (.imul, 1) := by decide +kernel
theorem dM_copy_16 : decode bM_copy 16 = .ok (.iload_n 3, 1) := by decide +kernel
theorem dM_copy_17 : decode bM_copy 17 = .ok (.iadd, 1) := by decide +kernel
theorem dM_copy_18 : decode bM_copy 18 = .ok (.aload_n 0, 1) := by decide +kernel
theorem dM_copy_19 : decode bM_copy 19 = .ok (.getfield 13, 3) := by decide +kernel
theorem dM_copy_22 : decode bM_copy 22 = .ok (.bipush 8, 2) := by decide +kernel
theorem dM_copy_24 : decode bM_copy 24 = .ok (.iload_n 1, 1) := by decide +kernel
theorem dM_copy_25 : decode bM_copy 25 = .ok (.imul, 1) := by decide +kernel
theorem dM_copy_26 : decode bM_copy 26 = .ok (.iload_n 3, 1) := by decide +kernel
theorem dM_copy_27 : decode bM_copy 27 = .ok (.iadd, 1) := by decide +kernel
theorem dM_copy_28 : decode bM_copy 28 = .ok (.iaload, 1) := by decide +kernel
theorem dM_copy_29 : decode bM_copy 29 = .ok (.iastore, 1) := by decide +kernel
theorem dM_copy_30 : decode bM_copy 30 = .ok (.aload_n 0, 1) := by decide +kernel
theorem dM_copy_31 : decode bM_copy 31 = .ok (.getfield 21, 3) := by decide +kernel
theorem dM_copy_34 : decode bM_copy 34 = .ok (.bipush 8, 2) := by decide +kernel
theorem dM_copy_36 : decode bM_copy 36 = .ok (.iload_n 2, 1) := by decide +kernel
theorem dM_copy_37 : decode bM_copy 37 = .ok (.imul, 1) := by decide +kernel
theorem dM_copy_38 : decode bM_copy 38 = .ok (.iload_n 3, 1) := by decide +kernel
theorem dM_copy_39 : decode bM_copy 39 = .ok (.iadd, 1) := by decide +kernel
theorem dM_copy_40 : decode bM_copy 40 = .ok (.aload_n 0, 1) := by decide +kernel
theorem dM_copy_41 : decode bM_copy 41 = .ok (.getfield 21, 3) := by decide +kernel
theorem dM_copy_44 : decode bM_copy 44 = .ok (.bipush 8, 2) := by decide +kernel
theorem dM_copy_46 : decode bM_copy 46 = .ok (.iload_n 1, 1) := by decide +kernel
theorem dM_copy_47 : decode bM_copy 47 = .ok (.imul, 1) := by decide +kernel
theorem dM_copy_48 : decode bM_copy 48 = .ok (.iload_n 3, 1) := by decide +kernel
theorem dM_copy_49 : decode bM_copy 49 = .ok (.iadd, 1) := by decide +kernel
theorem dM_copy_50 : decode bM_copy 50 = .ok (.laload, 1) := by decide +kernel
theorem dM_copy_51 : decode bM_copy 51 = .ok (.lastore, 1) := by decide +kernel
theorem dM_copy_52 : decode bM_copy 52 = .ok (.aload_n 0, 1) := by decide +kernel
theorem dM_copy_53 : decode bM_copy 53 = .ok (.getfield 24, 3) := by decide +kernel
theorem dM_copy_56 : decode bM_copy 56 = .ok (.bipush 8, 2) := by decide +kernel
theorem dM_copy_58 : decode bM_copy 58 = .ok (.iload_n 2, 1) := by decide +kernel
theorem dM_copy_59 : decode bM_copy 59 = .ok (.imul, 1) := by decide +kernel
theorem dM_copy_60 : decode bM_copy 60 = .ok (.iload_n 3, 1) := by decide +kernel
theorem dM_copy_61 : decode bM_copy 61 = .ok (.iadd, 1) := by decide +kernel
theorem dM_copy_62 : decode bM_copy 62 = .ok (.aload_n 0, 1) := by decide +kernel
theorem dM_copy_63 : decode bM_copy 63 = .ok (.getfield 24, 3) := by decide +kernel
theorem dM_copy_66 : decode bM_copy 66 = .ok (.bipush 8, 2) := by decide +kernel
theorem dM_copy_68 : decode bM_copy 68 = .ok (.iload_n 1, 1) := by decide +kernel
theorem dM_copy_69 : decode bM_copy 69 = .ok (.imul, 1) := by decide +kernel
theorem dM_copy_70 : decode bM_copy 70 = .ok (.iload_n 3, 1) := by decide +kernel
theorem dM_copy_71 : decode bM_copy 71 = .ok (.iadd, 1) := by decide +kernel
theorem dM_copy_72 : decode bM_copy 72 = .ok (.laload, 1) := by decide +kernel
theorem dM_copy_73 : decode bM_copy 73 = .ok (.lastore, 1) := by decide +kernel
theorem dM_copy_74 : decode bM_copy 74 = .ok (.aload_n 0, 1) := by decide +kernel
theorem dM_copy_75 : decode bM_copy 75 = .ok (.getfield 27, 3) := by decide +kernel
theorem dM_copy_78 : decode bM_copy 78 = .ok (.bipush 8, 2) := by decide +kernel
theorem dM_copy_80 : decode bM_copy 80 = .ok (.iload_n 2, 1) := by decide +kernel
theorem dM_copy_81 : decode bM_copy 81 = .ok (.imul, 1) := by decide +kernel
theorem dM_copy_82 : decode bM_copy 82 = .ok (.iload_n 3, 1) := by decide +kernel
theorem dM_copy_83 : decode bM_copy 83 = .ok (.iadd, 1) := by decide +kernel
theorem dM_copy_84 : decode bM_copy 84 = .ok (.aload_n 0, 1) := by decide +kernel
theorem dM_copy_85 : decode bM_copy 85 = .ok (.getfield 27, 3) := by decide +kernel
theorem dM_copy_88 : decode bM_copy 88 = .ok (.bipush 8, 2) := by decide +kernel
theorem dM_copy_90 : decode bM_copy 90 = .ok (.iload_n 1, 1) := by decide +kernel
theorem dM_copy_91 : decode bM_copy 91 = .ok (.imul, 1) := by decide +kernel
theorem dM_copy_92 : decode bM_copy 92 = .ok (.iload_n 3, 1) := by decide +kernel
theorem dM_copy_93 : decode bM_copy 93 = .ok (.iadd, 1) := by decide +kernel
theorem dM_copy_94 : decode bM_copy 94 = .ok (.laload, 1) := by decide +kernel
theorem dM_copy_95 : decode bM_copy 95 = .ok (.lastore, 1) := by decide +kernel
theorem dM_copy_96 : decode bM_copy 96 = .ok (.iinc 3 1, 3) := by decide +kernel
theorem dM_copy_99 : decode bM_copy 99 = .ok (.goto (-97), 3) := by decide +kernel
theorem dM_copy_102 : decode bM_copy 102 = .ok (.aload_n 0, 1) := by decide +kernel
theorem dM_copy_103 : decode bM_copy 103 = .ok (.getfield 17, 3) := by decide +kernel
theorem dM_copy_106 : decode bM_copy 106 = .ok (.iload_n 2, 1) := by decide +kernel
theorem dM_copy_107 : decode bM_copy 107 = .ok (.aload_n 0, 1) := by decide +kernel
theorem dM_copy_108 : decode bM_copy 108 = .ok (.getfield 17, 3) := by decide +kernel
theorem dM_copy_111 : decode bM_copy 111 = .ok (.iload_n 1, 1) := by decide +kernel
theorem dM_copy_112 : decode bM_copy 112 = .ok (.laload, 1) := by decide +kernel
theorem dM_copy_113 : decode bM_copy 113 = .ok (.lastore, 1) := by decide +kernel
theorem dM_copy_114 : decode bM_copy 114 = .ok (.return_, 1) := by decide +kernel
theorem dM_spread_0 : decode bM_spread 0 = .ok (.aload_n 0, 1) := by decide +kernel
theorem dM_spread_1 : decode bM_spread 1 = .ok (.iload_n 2, 1) := by decide +kernel
theorem dM_spread_2 : decode bM_spread 2 = .ok (.ifCond .lt 23, 3) := by decide +kernel
theorem dM_spread_5 : decode bM_spread 5 = .ok (.iload_n 2, 1) := by decide +kernel
theorem dM_spread_6 : decode bM_spread 6 = .ok (.aload_n 0, 1) := by decide +kernel
theorem dM_spread_7 : decode bM_spread 7 = .ok (.getfield 39, 3) := by decide +kernel
theorem dM_spread_10 : decode bM_spread 10 = .ok (.if_icmp .ge 15, 3) := by decide +kernel
theorem dM_spread_13 : decode bM_spread 13 = .ok (.iload_n 1, 1) := by decide +kernel
theorem dM_spread_14 : decode bM_spread 14 = .ok (.iconst 1, 1) := by decide +kernel
theorem dM_spread_15 : decode bM_spread 15 = .ok (.if_icmp .lt 10, 3) := by decide +kernel
theorem dM_spread_18 : decode bM_spread 18 = .ok (.iload_n 1, 1) := by decide +kernel
theorem dM_spread_19 : decode bM_spread 19 = .ok (.sipush 5000, 3) := by decide +kernel
theorem dM_spread_22 : decode bM_spread 22 = .ok (.if_icmp .le 7, 3) := by decide +kernel
theorem dM_spread_25 : decode bM_spread 25 = .ok (.iconst 1, 1) := by decide +kernel
theorem dM_spread_26 : decode bM_spread 26 = .ok (.goto 4, 3) := by decide +kernel
theorem dM_spread_29 : decode bM_spread 29 = .ok (.iconst 0, 1) := by decide +kernel
theorem dM_spread_30 : decode bM_spread 30 = .ok (.putfield 36, 3) := by decide +kernel
theorem dM_spread_33 : decode bM_spread 33 = .ok (.aload_n 0, 1) := by decide +kernel
theorem dM_spread_34 : decode bM_spread 34 = .ok (.getfield 36, 3) := by decide +kernel
theorem dM_spread_37 : decode bM_spread 37 = .ok (.ifCond .le 5, 3) := by decide +kernel
theorem dM_spread_40 : decode bM_spread 40 = .ok (.iconst 0, 1) := by decide +kernel
theorem dM_spread_41 : decode bM_spread 41 = .ok (.ireturn, 1) := by decide +kernel
theorem dM_spread_42 : decode bM_spread 42 = .ok (.iconst 0, 1) := by decide +kernel
theorem dM_spread_43 : decode bM_spread 43 = .ok (.istore 4, 2) := by decide +kernel
theorem dM_spread_45 : decode bM_spread 45 = .ok (.iload 4, 2) := by decide +kernel
theorem dM_spread_47 : decode bM_spread 47 = .ok (.iload_n 1, 1) := by decide +kernel
theorem dM_spread_48 : decode bM_spread 48 = .ok (.if_icmp .ge 65, 3) := by decide +kernel
theorem dM_spread_51 : decode bM_spread 51 = .ok (.iload 4, 2) := by decide +kernel
theorem dM_spread_53 : decode bM_spread 53 = .ok (.ifCond .le 43, 3) := by decide +kernel
theorem dM_spread_56 : decode bM_spread 56 = .ok (.aload_n 0, 1) := by decide +kernel
theorem dM_spread_57 : decode bM_spread 57 = .ok (.getfield 30, 3) := by decide +kernel
theorem dM_spread_60 : decode bM_spread 60 = .ok (.iload_n 2, 1) := by decide +kernel
theorem dM_spread_61 : decode bM_spread 61 = .ok (.dup2, 1) := by decide +kernel
theorem dM_spread_62 : decode bM_spread 62 = .ok (.iaload, 1) := by decide +kernel
theorem dM_spread_63 : decode bM_spread 63 = .ok (.iload_n 3, 1) := by decide +kernel
theorem dM_spread_64 : decode bM_spread 64 = .ok (.iadd, 1) := by decide +kernel
theorem dM_spread_65 : decode bM_spread 65 = .ok (.iastore, 1) := by decide +kernel
theorem dM_spread_66 : decode bM_spread 66 = .ok (.iconst 0, 1) := by decide +kernel
theorem dM_spread_67 : decode bM_spread 67 = .ok (.istore 5, 2) := by decide +kernel
theorem dM_spread_69 : decode bM_spread 69 = .ok (.iload 5, 2) := by decide +kernel
theorem dM_spread_71 : decode bM_spread 71 = .ok (.aload_n 0, 1) := by decide +kernel
theorem dM_spread_72 : decode bM_spread 72 = .ok (.getfield 7, 3) := by decide +kernel
theorem dM_spread_75 : decode bM_spread 75 = .ok (.if_icmp .ge 21, 3) := by decide +kernel
theorem dM_spread_78 : decode bM_spread 78 = .ok (.aload_n 0, 1) := by decide +kernel
theorem dM_spread_79 : decode bM_spread 79 = .ok (.getfield 33, 3) := by decide +kernel
theorem dM_spread_82 : decode bM_spread 82 = .ok (.iload 5, 2) := by decide +kernel
theorem dM_spread_84 : decode bM_spread 84 = .ok (.dup2, 1) := by decide +kernel
theorem dM_spread_85 : decode bM_spread 85 = .ok (.laload, 1) := by decide +kernel
theorem dM_spread_86 : decode bM_spread 86 = .ok (.iload_n 3, 1) := by decide +kernel
theorem dM_spread_87 : decode bM_spread 87 = .ok (.i2l, 1) := by decide +kernel
theorem dM_spread_88 : decode bM_spread 88 = .ok (.ladd, 1) := by decide +kernel
theorem dM_spread_89 : decode bM_spread 89 = .ok (.lastore, 1) := by decide +kernel
theorem dM_spread_90 : decode bM_spread 90 = .ok (.iinc 5 1, 3) := by decide +kernel
theorem dM_spread_93 : decode bM_spread 93 = .ok (.goto (-24), 3) := by decide +kernel
theorem dM_spread_96 : decode bM_spread 96 = .ok (.aload_n 0, 1) := by decide +kernel
theorem dM_spread_97 : decode bM_spread 97 = .ok (.iconst 1, 1) := by decide +kernel
theorem dM_spread_98 : decode bM_spread 98 = .ok (.invokevirtual 58, 3) := by decide +kernel
theorem dM_spread_101 : decode bM_spread 101 = .ok (.ifCond .ne 6, 3) := by decide +kernel
theorem dM_spread_104 : decode bM_spread 104 = .ok (.iload 4, 2) := by decide +kernel
theorem dM_spread_106 : decode bM_spread 106 = .ok (.ireturn, 1) := by decide +kernel
theorem dM_spread_107 : decode bM_spread 107 = .ok (.iinc 4 1, 3) := by decide +kernel
theorem dM_spread_110 : decode bM_spread 110 = .ok (.goto (-65), 3) := by decide +kernel
theorem dM_spread_113 : decode bM_spread 113 = .ok (.iload_n 1, 1) := by decide +kernel
theorem dM_spread_114 : decode bM_spread 114 = .ok (.ireturn, 1) := by decide +kernel
theorem dM_roll_0 : decode bM_roll 0 = .ok (.aload_n 0, 1) := by decide +kernel
theorem dM_roll_1 : decode bM_roll 1 = .ok (.iload_n 1, 1) := by decide +kernel
theorem dM_roll_2 : decode bM_roll 2 = .ok (.ifCond .lt 11, 3) := by decide +kernel
theorem dM_roll_5 : decode bM_roll 5 = .ok (.iload_n 1, 1) := by decide +kernel
theorem dM_roll_6 : decode bM_roll 6 = .ok (.aload_n 0, 1) := by decide +kernel
theorem dM_roll_7 : decode bM_roll 7 = .ok (.getfield 39, 3) := by decide +kernel
theorem dM_roll_10 : decode bM_roll 10 = .ok (.if_icmp .lt 7, 3) := by decide +kernel
theorem dM_roll_13 : decode bM_roll 13 = .ok (.iconst 1, 1) := by decide +kernel
theorem dM_roll_14 : decode bM_roll 14 = .ok (.goto 4, 3) := by decide +kernel
theorem dM_roll_17 : decode bM_roll 17 = .ok (.iconst 0, 1) := by decide +kernel
theorem dM_roll_18 : decode bM_roll 18 = .ok (.putfield 36, 3) := by decide +kernel
theorem dM_roll_21 : decode bM_roll 21 = .ok (.aload_n 0, 1) := by decide +kernel
theorem dM_roll_22 : decode bM_roll 22 = .ok (.getfield 36, 3) := by decide +kernel
theorem dM_roll_25 : decode bM_roll 25 = .ok (.ifCond .le 5, 3) := by decide +kernel
theorem dM_roll_28 : decode bM_roll 28 = .ok (.iconst 0, 1) := by decide +kernel
theorem dM_roll_29 : decode bM_roll 29 = .ok (.ireturn, 1) := by decide +kernel
theorem dM_roll_30 : decode bM_roll 30 = .ok (.iconst 0, 1) := by decide +kernel
theorem dM_roll_31 : decode bM_roll 31 = .ok (.istore_n 2, 1) := by decide +kernel
theorem dM_roll_32 : decode bM_roll 32 = .ok (.iload_n 2, 1) := by decide +kernel
theorem dM_roll_33 : decode bM_roll 33 = .ok (.aload_n 0, 1) := by decide +kernel
theorem dM_roll_34 : decode bM_roll 34 = .ok (.getfield 42, 3) := by decide +kernel
theorem dM_roll_37 : decode bM_roll 37 = .ok (.if_icmp .ge 22, 3) := by decide +kernel
theorem dM_roll_40 : decode bM_roll 40 = .ok (.aload_n 0, 1) := by decide +kernel
theorem dM_roll_41 : decode bM_roll 41 = .ok (.getfield 13, 3) := by decide +kernel
theorem dM_roll_44 : decode bM_roll 44 = .ok (.bipush 8, 2) := by decide +kernel
theorem dM_roll_46 : decode bM_roll 46 = .ok (.iload_n 2, 1) := by decide +kernel
theorem dM_roll_47 : decode bM_roll 47 = .ok (.imul, 1) := by decide +kernel
theorem dM_roll_48 : decode bM_roll 48 = .ok (.iload_n 1, 1) := by decide +kernel
theorem dM_roll_49 : decode bM_roll 49 = .ok (.iadd, 1) := by decide +kernel
theorem dM_roll_50 : decode bM_roll 50 = .ok (.ldc 62, 2) := by decide +kernel
theorem dM_roll_52 : decode bM_roll 52 = .ok (.iastore, 1) := by decide +kernel
theorem dM_roll_53 : decode bM_roll 53 = .ok (.iinc 2 1, 3) := by decide +kernel
theorem dM_roll_56 : decode bM_roll 56 = .ok (.goto (-24), 3) := by decide +kernel
theorem dM_roll_59 : decode bM_roll 59 = .ok (.iconst 0, 1) := by decide +kernel
theorem dM_roll_60 : decode bM_roll 60 = .ok (.istore_n 2, 1) := by decide +kernel
theorem dM_roll_61 : decode bM_roll 61 = .ok (.iconst 0, 1) := by decide +kernel
theorem dM_roll_62 : decode bM_roll 62 = .ok (.istore_n 3, 1) := by decide +kernel
theorem dM_roll_63 : decode bM_roll 63 = .ok (.iload_n 3, 1) := by decide +kernel
theorem dM_roll_64 : decode bM_roll 64 = .ok (.aload_n 0, 1) := by decide +kernel
theorem dM_roll_65 : decode bM_roll 65 = .ok (.getfield 42, 3) := by decide +kernel
theorem dM_roll_68 : decode bM_roll 68 = .ok (.if_icmp .ge 74, 3) := by decide +kernel
theorem dM_roll_71 : decode bM_roll 71 = .ok (.iconst (-1), 1) := by decide +kernel
theorem dM_roll_72 : decode bM_roll 72 = .ok (.istore 4, 2) := by decide +kernel
theorem dM_roll_74 : decode bM_roll 74 = .ok (.iconst 0, 1) := by decide +kernel
theorem dM_roll_75 : decode bM_roll 75 = .ok (.istore 5, 2) := by decide +kernel
theorem dM_roll_77 : decode bM_roll 77 = .ok (.iload 5, 2) := by decide +kernel
theorem dM_roll_79 : decode bM_roll 79 = .ok (.iload_n 2, 1) := by decide +kernel
theorem dM_roll_80 : decode bM_roll 80 = .ok (.if_icmp .ge 32, 3) := by decide +kernel
theorem dM_roll_83 : decode bM_roll 83 = .ok (.iload 4, 2) := by decide +kernel
theorem dM_roll_85 : decode bM_roll 85 = .ok (.ifCond .ge 27, 3) := by decide +kernel
theorem dM_roll_88 : decode bM_roll 88 = .ok (.aload_n 0, 1) := by decide +kernel
theorem dM_roll_89 : decode bM_roll 89 = .ok (.iload 5, 2) := by decide +kernel
theorem dM_roll_91 : decode bM_roll 91 = .ok (.iload_n 3, 1) := by decide +kernel
theorem dM_roll_92 : decode bM_roll 92 = .ok (.invokevirtual 63, 3) := by decide +kernel
theorem dM_roll_95 : decode bM_roll 95 = .ok (.ifCond .ne 8, 3) := by decide +kernel
theorem dM_roll_98 : decode bM_roll 98 = .ok (.iload 5, 2) := by decide +kernel
theorem dM_roll_100 : decode bM_roll 100 = .ok (.goto 4, 3) := by decide +kernel
theorem dM_roll_103 : decode bM_roll 103 = .ok (.iconst (-1), 1) := by decide +kernel
theorem dM_roll_104 : decode bM_roll 104 = .ok (.istore 4, 2) := by decide +kernel
theorem dM_roll_106 : decode bM_roll 106 = .ok (.iinc 5 1, 3) := by decide +kernel
theorem dM_roll_109 : decode bM_roll 109 = .ok (.goto (-32), 3) := by decide +kernel
theorem dM_roll_112 : decode bM_roll 112 = .ok (.iload 4, 2) := by decide +kernel
theorem dM_roll_114 : decode bM_roll 114 = .ok (.ifCond .lt 13, 3) := by decide +kernel
theorem dM_roll_117 : decode bM_roll 117 = .ok (.aload_n 0, 1) := by decide +kernel
theorem dM_roll_118 : decode bM_roll 118 = .ok (.iload_n 3, 1) := by decide +kernel
theorem dM_roll_119 : decode bM_roll 119 = .ok (.iload 4, 2) := by decide +kernel
theorem dM_roll_121 : decode bM_roll 121 = .ok (.invokevirtual 67, 3) := by decide +kernel
theorem dM_roll_124 : decode bM_roll 124 = .ok (.goto 12, 3) := by decide +kernel
theorem dM_roll_127 : decode bM_roll 127 = .ok (.aload_n 0, 1) := by decide +kernel
theorem dM_roll_128 : decode bM_roll 128 = .ok (.iload_n 3, 1) := by decide +kernel
theorem dM_roll_129 : decode bM_roll 129 = .ok (.iload_n 2, 1) := by decide +kernel
theorem dM_roll_130 : decode bM_roll 130 = .ok (.invokevirtual 53, 3) := by decide +kernel
theorem dM_roll_133 : decode bM_roll 133 = .ok (.iinc 2 1, 3) := by decide +kernel
theorem dM_roll_136 : decode bM_roll 136 = .ok (.iinc 3 1, 3) := by decide +kernel
theorem dM_roll_139 : decode bM_roll 139 = .ok (.goto (-76), 3) := by decide +kernel
theorem dM_roll_142 : decode bM_roll 142 = .ok (.aload_n 0, 1) := by decide +kernel
theorem dM_roll_143 : decode bM_roll 143 = .ok (.iload_n 2, 1) := by decide +kernel
theorem dM_roll_144 : decode bM_roll 144 = .ok (.putfield 42, 3) := by decide +kernel
theorem dM_roll_147 : decode bM_roll 147 = .ok (.aload_n 0, 1) := by decide +kernel
theorem dM_roll_148 : decode bM_roll 148 = .ok (.invokevirtual 70, 3) := by decide +kernel
theorem dM_roll_151 : decode bM_roll 151 = .ok (.aload_n 0, 1) := by decide +kernel
theorem dM_roll_152 : decode bM_roll 152 = .ok (.getfield 42, 3) := by decide +kernel
theorem dM_roll_155 : decode bM_roll 155 = .ok (.ireturn, 1) := by decide +kernel
theorem dM_compared_0 : decode bM_compared 0 = .ok (.iconst 0, 1) := by decide +kernel
theorem dM_compared_1 : decode bM_compared 1 = .ok (.istore_n 3, 1) := by decide +kernel
theorem dM_compared_2 : decode bM_compared 2 = .ok (.iload_n 3, 1) := by decide +kernel
theorem dM_compared_3 : decode bM_compared 3 = .ok (.aload_n 0, 1) := by decide +kernel
theorem dM_compared_4 : decode bM_compared 4 = .ok (.getfield 39, 3) := by decide +kernel
theorem dM_compared_7 : decode bM_compared 7 = .ok (.if_icmp .ge 65, 3) := by decide +kernel
theorem dM_compared_10 : decode bM_compared 10 = .ok (.aload_n 0, 1) := by decide +kernel
theorem dM_compared_11 : decode bM_compared 11 = .ok (.getfield 13, 3) := by decide +kernel
theorem dM_compared_14 : decode bM_compared 14 = .ok (.bipush 8, 2) := by decide +kernel
theorem dM_compared_16 : decode bM_compared 16 = .ok (.iload_n 1, 1) := by decide +kernel
theorem dM_compared_17 : decode bM_compared 17 = .ok (.imul, 1) := by decide +kernel
theorem dM_compared_18 : decode bM_compared 18 = .ok (.iload_n 3, 1) := by decide +kernel
theorem dM_compared_19 : decode bM_compared 19 = .ok (.iadd, 1) := by decide +kernel
theorem dM_compared_20 : decode bM_compared 20 = .ok (.iaload, 1) := by decide +kernel
theorem dM_compared_21 : decode bM_compared 21 = .ok (.aload_n 0, 1) := by decide +kernel
theorem dM_compared_22 : decode bM_compared 22 = .ok (.getfield 13, 3) := by decide +kernel
theorem dM_compared_25 : decode bM_compared 25 = .ok (.bipush 8, 2) := by decide +kernel
theorem dM_compared_27 : decode bM_compared 27 = .ok (.iload_n 2, 1) := by decide +kernel
theorem dM_compared_28 : decode bM_compared 28 = .ok (.imul, 1) := by decide +kernel
theorem dM_compared_29 : decode bM_compared 29 = .ok (.iload_n 3, 1) := by decide +kernel
theorem dM_compared_30 : decode bM_compared 30 = .ok (.iadd, 1) := by decide +kernel
theorem dM_compared_31 : decode bM_compared 31 = .ok (.iaload, 1) := by decide +kernel
theorem dM_compared_32 : decode bM_compared 32 = .ok (.if_icmp .eq 34, 3) := by decide +kernel
theorem dM_compared_35 : decode bM_compared 35 = .ok (.aload_n 0, 1) := by decide +kernel
theorem dM_compared_36 : decode bM_compared 36 = .ok (.getfield 13, 3) := by decide +kernel
theorem dM_compared_39 : decode bM_compared 39 = .ok (.bipush 8, 2) := by decide +kernel
theorem dM_compared_41 : decode bM_compared 41 = .ok (.iload_n 1, 1) := by decide +kernel
theorem dM_compared_42 : decode bM_compared 42 = .ok (.imul, 1) := by decide +kernel
theorem dM_compared_43 : decode bM_compared 43 = .ok (.iload_n 3, 1) := by decide +kernel
theorem dM_compared_44 : decode bM_compared 44 = .ok (.iadd, 1) := by decide +kernel
theorem dM_compared_45 : decode bM_compared 45 = .ok (.iaload, 1) := by decide +kernel
theorem dM_compared_46 : decode bM_compared 46 = .ok (.aload_n 0, 1) := by decide +kernel
theorem dM_compared_47 : decode bM_compared 47 = .ok (.getfield 13, 3) := by decide +kernel
theorem dM_compared_50 : decode bM_compared 50 = .ok (.bipush 8, 2) := by decide +kernel
theorem dM_compared_52 : decode bM_compared 52 = .ok (.iload_n 2, 1) := by decide +kernel
theorem dM_compared_53 : decode bM_compared 53 = .ok (.imul, 1) := by decide +kernel
theorem dM_compared_54 : decode bM_compared 54 = .ok (.iload_n 3, 1) := by decide +kernel
theorem dM_compared_55 : decode bM_compared 55 = .ok (.iadd, 1) := by decide +kernel
theorem dM_compared_56 : decode bM_compared 56 = .ok (.iaload, 1) := by decide +kernel
theorem dM_compared_57 : decode bM_compared 57 = .ok (.if_icmp .ge 7, 3) := by decide +kernel
theorem dM_compared_60 : decode bM_compared 60 = .ok (.iconst (-1), 1) := by decide +kernel
theorem dM_compared_61 : decode bM_compared 61 = .ok (.goto 4, 3) := by decide +kernel
theorem dM_compared_64 : decode bM_compared 64 = .ok (.iconst 1, 1) := by decide +kernel
theorem dM_compared_65 : decode bM_compared 65 = .ok (.ireturn, 1) := by decide +kernel
theorem dM_compared_66 : decode bM_compared 66 = .ok (.iinc 3 1, 3) := by decide +kernel
theorem dM_compared_69 : decode bM_compared 69 = .ok (.goto (-67), 3) := by decide +kernel
theorem dM_compared_72 : decode bM_compared 72 = .ok (.iconst 0, 1) := by decide +kernel
theorem dM_compared_73 : decode bM_compared 73 = .ok (.ireturn, 1) := by decide +kernel
theorem dM_join_0 : decode bM_join 0 = .ok (.aload_n 0, 1) := by decide +kernel
theorem dM_join_1 : decode bM_join 1 = .ok (.getfield 17, 3) := by decide +kernel
theorem dM_join_4 : decode bM_join 4 = .ok (.iload_n 2, 1) := by decide +kernel
theorem dM_join_5 : decode bM_join 5 = .ok (.dup2, 1) := by decide +kernel
theorem dM_join_6 : decode bM_join 6 = .ok (.laload, 1) := by decide +kernel
theorem dM_join_7 : decode bM_join 7 = .ok (.aload_n 0, 1) := by decide +kernel
theorem dM_join_8 : decode bM_join 8 = .ok (.getfield 17, 3) := by decide +kernel
theorem dM_join_11 : decode bM_join 11 = .ok (.iload_n 1, 1) := by decide +kernel
theorem dM_join_12 : decode bM_join 12 = .ok (.laload, 1) := by decide +kernel
theorem dM_join_13 : decode bM_join 13 = .ok (.ladd, 1) := by decide +kernel
theorem dM_join_14 : decode bM_join 14 = .ok (.lastore, 1) := by decide +kernel
theorem dM_join_15 : decode bM_join 15 = .ok (.iconst 0, 1) := by decide +kernel
theorem dM_join_16 : decode bM_join 16 = .ok (.istore_n 3, 1) := by decide +kernel
theorem dM_join_17 : decode bM_join 17 = .ok (.iload_n 3, 1) := by decide +kernel
theorem dM_join_18 : decode bM_join 18 = .ok (.aload_n 0, 1) := by decide +kernel
theorem dM_join_19 : decode bM_join 19 = .ok (.getfield 7, 3) := by decide +kernel
theorem dM_join_22 : decode bM_join 22 = .ok (.if_icmp .ge 126, 3) := by decide +kernel
theorem dM_join_25 : decode bM_join 25 = .ok (.bipush 8, 2) := by decide +kernel
theorem dM_join_27 : decode bM_join 27 = .ok (.iload_n 1, 1) := by decide +kernel
theorem dM_join_28 : decode bM_join 28 = .ok (.imul, 1) := by decide +kernel
theorem dM_join_29 : decode bM_join 29 = .ok (.iload_n 3, 1) := by decide +kernel
theorem dM_join_30 : decode bM_join 30 = .ok (.iadd, 1) := by decide +kernel
theorem dM_join_31 : decode bM_join 31 = .ok (.istore 4, 2) := by decide +kernel
theorem dM_join_33 : decode bM_join 33 = .ok (.bipush 8, 2) := by decide +kernel
theorem dM_join_35 : decode bM_join 35 = .ok (.iload_n 2, 1) := by decide +kernel
theorem dM_join_36 : decode bM_join 36 = .ok (.imul, 1) := by decide +kernel
theorem dM_join_37 : decode bM_join 37 = .ok (.iload_n 3, 1) := by decide +kernel
theorem dM_join_38 : decode bM_join 38 = .ok (.iadd, 1) := by decide +kernel
theorem dM_join_39 : decode bM_join 39 = .ok (.istore 5, 2) := by decide +kernel
theorem dM_join_41 : decode bM_join 41 = .ok (.aload_n 0, 1) := by decide +kernel
theorem dM_join_42 : decode bM_join 42 = .ok (.getfield 21, 3) := by decide +kernel
theorem dM_join_45 : decode bM_join 45 = .ok (.iload 5, 2) := by decide +kernel
theorem dM_join_47 : decode bM_join 47 = .ok (.dup2, 1) := by decide +kernel
theorem dM_join_48 : decode bM_join 48 = .ok (.laload, 1) := by decide +kernel
theorem dM_join_49 : decode bM_join 49 = .ok (.aload_n 0, 1) := by decide +kernel
theorem dM_join_50 : decode bM_join 50 = .ok (.getfield 21, 3) := by decide +kernel
theorem dM_join_53 : decode bM_join 53 = .ok (.iload 4, 2) := by decide +kernel
theorem dM_join_55 : decode bM_join 55 = .ok (.laload, 1) := by decide +kernel
theorem dM_join_56 : decode bM_join 56 = .ok (.ladd, 1) := by decide +kernel
theorem dM_join_57 : decode bM_join 57 = .ok (.lastore, 1) := by decide +kernel
theorem dM_join_58 : decode bM_join 58 = .ok (.aload_n 0, 1) := by decide +kernel
theorem dM_join_59 : decode bM_join 59 = .ok (.getfield 24, 3) := by decide +kernel
theorem dM_join_62 : decode bM_join 62 = .ok (.iload 5, 2) := by decide +kernel
theorem dM_join_64 : decode bM_join 64 = .ok (.aload_n 0, 1) := by decide +kernel
theorem dM_join_65 : decode bM_join 65 = .ok (.getfield 24, 3) := by decide +kernel
theorem dM_join_68 : decode bM_join 68 = .ok (.iload 4, 2) := by decide +kernel
theorem dM_join_70 : decode bM_join 70 = .ok (.laload, 1) := by decide +kernel
theorem dM_join_71 : decode bM_join 71 = .ok (.aload_n 0, 1) := by decide +kernel
theorem dM_join_72 : decode bM_join 72 = .ok (.getfield 24, 3) := by decide +kernel
theorem dM_join_75 : decode bM_join 75 = .ok (.iload 5, 2) := by decide +kernel
theorem dM_join_77 : decode bM_join 77 = .ok (.laload, 1) := by decide +kernel
theorem dM_join_78 : decode bM_join 78 = .ok (.lcmp, 1) := by decide +kernel
theorem dM_join_79 : decode bM_join 79 = .ok (.ifCond .ge 13, 3) := by decide +kernel
theorem dM_join_82 : decode bM_join 82 = .ok (.aload_n 0, 1) := by decide +kernel
theorem dM_join_83 : decode bM_join 83 = .ok (.getfield 24, 3) := by decide +kernel
theorem dM_join_86 : decode bM_join 86 = .ok (.iload 4, 2) := by decide +kernel
theorem dM_join_88 : decode bM_join 88 = .ok (.laload, 1) := by decide +kernel
theorem dM_join_89 : decode bM_join 89 = .ok (.goto 10, 3) := by decide +kernel
theorem dM_join_92 : decode bM_join 92 = .ok (.aload_n 0, 1) := by decide +kernel
theorem dM_join_93 : decode bM_join 93 = .ok (.getfield 24, 3) := by decide +kernel
theorem dM_join_96 : decode bM_join 96 = .ok (.iload 5, 2) := by decide +kernel
theorem dM_join_98 : decode bM_join 98 = .ok (.laload, 1) := by decide +kernel
theorem dM_join_99 : decode bM_join 99 = .ok (.lastore, 1) := by decide +kernel
theorem dM_join_100 : decode bM_join 100 = .ok (.aload_n 0, 1) := by decide +kernel
theorem dM_join_101 : decode bM_join 101 = .ok (.getfield 27, 3) := by decide +kernel
theorem dM_join_104 : decode bM_join 104 = .ok (.iload 5, 2) := by decide +kernel
theorem dM_join_106 : decode bM_join 106 = .ok (.aload_n 0, 1) := by decide +kernel
theorem dM_join_107 : decode bM_join 107 = .ok (.getfield 27, 3) := by decide +kernel
theorem dM_join_110 : decode bM_join 110 = .ok (.iload 4, 2) := by decide +kernel
theorem dM_join_112 : decode bM_join 112 = .ok (.laload, 1) := by decide +kernel
theorem dM_join_113 : decode bM_join 113 = .ok (.aload_n 0, 1) := by decide +kernel
theorem dM_join_114 : decode bM_join 114 = .ok (.getfield 27, 3) := by decide +kernel
theorem dM_join_117 : decode bM_join 117 = .ok (.iload 5, 2) := by decide +kernel
theorem dM_join_119 : decode bM_join 119 = .ok (.laload, 1) := by decide +kernel
theorem dM_join_120 : decode bM_join 120 = .ok (.lcmp, 1) := by decide +kernel
theorem dM_join_121 : decode bM_join 121 = .ok (.ifCond .le 13, 3) := by decide +kernel
theorem dM_join_124 : decode bM_join 124 = .ok (.aload_n 0, 1) := by decide +kernel
theorem dM_join_125 : decode bM_join 125 = .ok (.getfield 27, 3) := by decide +kernel
theorem dM_join_128 : decode bM_join 128 = .ok (.iload 4, 2) := by decide +kernel
theorem dM_join_130 : decode bM_join 130 = .ok (.laload, 1) := by decide +kernel
theorem dM_join_131 : decode bM_join 131 = .ok (.goto 10, 3) := by decide +kernel
theorem dM_join_134 : decode bM_join 134 = .ok (.aload_n 0, 1) := by decide +kernel
theorem dM_join_135 : decode bM_join 135 = .ok (.getfield 27, 3) := by decide +kernel
theorem dM_join_138 : decode bM_join 138 = .ok (.iload 5, 2) := by decide +kernel
theorem dM_join_140 : decode bM_join 140 = .ok (.laload, 1) := by decide +kernel
theorem dM_join_141 : decode bM_join 141 = .ok (.lastore, 1) := by decide +kernel
theorem dM_join_142 : decode bM_join 142 = .ok (.iinc 3 1, 3) := by decide +kernel
theorem dM_join_145 : decode bM_join 145 = .ok (.goto (-128), 3) := by decide +kernel
theorem dM_join_148 : decode bM_join 148 = .ok (.return_, 1) := by decide +kernel
theorem dM_sort_0 : decode bM_sort 0 = .ok (.iconst 0, 1) := by decide +kernel
theorem dM_sort_1 : decode bM_sort 1 = .ok (.istore_n 1, 1) := by decide +kernel
theorem dM_sort_2 : decode bM_sort 2 = .ok (.iload_n 1, 1) := by decide +kernel
theorem dM_sort_3 : decode bM_sort 3 = .ok (.aload_n 0, 1) := by decide +kernel
theorem dM_sort_4 : decode bM_sort 4 = .ok (.getfield 42, 3) := by decide +kernel
theorem dM_sort_7 : decode bM_sort 7 = .ok (.if_icmp .ge 55, 3) := by decide +kernel
theorem dM_sort_10 : decode bM_sort 10 = .ok (.iload_n 1, 1) := by decide +kernel
theorem dM_sort_11 : decode bM_sort 11 = .ok (.istore_n 2, 1) := by decide +kernel
theorem dM_sort_12 : decode bM_sort 12 = .ok (.iload_n 1, 1) := by decide +kernel
theorem dM_sort_13 : decode bM_sort 13 = .ok (.iconst 1, 1) := by decide +kernel
theorem dM_sort_14 : decode bM_sort 14 = .ok (.iadd, 1) := by decide +kernel
theorem dM_sort_15 : decode bM_sort 15 = .ok (.istore_n 3, 1) := by decide +kernel
theorem dM_sort_16 : decode bM_sort 16 = .ok (.iload_n 3, 1) := by decide +kernel
theorem dM_sort_17 : decode bM_sort 17 = .ok (.aload_n 0, 1) := by decide +kernel
theorem dM_sort_18 : decode bM_sort 18 = .ok (.getfield 42, 3) := by decide +kernel
theorem dM_sort_21 : decode bM_sort 21 = .ok (.if_icmp .ge 24, 3) := by decide +kernel
theorem dM_sort_24 : decode bM_sort 24 = .ok (.aload_n 0, 1) := by decide +kernel
theorem dM_sort_25 : decode bM_sort 25 = .ok (.iload_n 3, 1) := by decide +kernel
theorem dM_sort_26 : decode bM_sort 26 = .ok (.iload_n 2, 1) := by decide +kernel
theorem dM_sort_27 : decode bM_sort 27 = .ok (.invokevirtual 63, 3) := by decide +kernel
theorem dM_sort_30 : decode bM_sort 30 = .ok (.ifCond .ge 7, 3) := by decide +kernel
theorem dM_sort_33 : decode bM_sort 33 = .ok (.iload_n 3, 1) := by decide +kernel
theorem dM_sort_34 : decode bM_sort 34 = .ok (.goto 4, 3) := by decide +kernel
theorem dM_sort_37 : decode bM_sort 37 = .ok (.iload_n 2, 1) := by decide +kernel
theorem dM_sort_38 : decode bM_sort 38 = .ok (.istore_n 2, 1) := by decide +kernel
theorem dM_sort_39 : decode bM_sort 39 = .ok (.iinc 3 1, 3) := by decide +kernel
theorem dM_sort_42 : decode bM_sort 42 = .ok (.goto (-26), 3) := by decide +kernel
theorem dM_sort_45 : decode bM_sort 45 = .ok (.iload_n 2, 1) := by decide +kernel
theorem dM_sort_46 : decode bM_sort 46 = .ok (.iload_n 1, 1) := by decide +kernel
theorem dM_sort_47 : decode bM_sort 47 = .ok (.if_icmp .eq 9, 3) := by decide +kernel
theorem dM_sort_50 : decode bM_sort 50 = .ok (.aload_n 0, 1) := by decide +kernel
theorem dM_sort_51 : decode bM_sort 51 = .ok (.iload_n 1, 1) := by decide +kernel
theorem dM_sort_52 : decode bM_sort 52 = .ok (.iload_n 2, 1) := by decide +kernel
theorem dM_sort_53 : decode bM_sort 53 = .ok (.invokevirtual 73, 3) := by decide +kernel
theorem dM_sort_56 : decode bM_sort 56 = .ok (.iinc 1 1, 3) := by decide +kernel
theorem dM_sort_59 : decode bM_sort 59 = .ok (.goto (-57), 3) := by decide +kernel
theorem dM_sort_62 : decode bM_sort 62 = .ok (.return_, 1) := by decide +kernel
theorem dM_swap_0 : decode bM_swap 0 = .ok (.aload_n 0, 1) := by decide +kernel
theorem dM_swap_1 : decode bM_swap 1 = .ok (.getfield 17, 3) := by decide +kernel
theorem dM_swap_4 : decode bM_swap 4 = .ok (.iload_n 1, 1) := by decide +kernel
theorem dM_swap_5 : decode bM_swap 5 = .ok (.laload, 1) := by decide +kernel
theorem dM_swap_6 : decode bM_swap 6 = .ok (.lstore_n 3, 1) := by decide +kernel
theorem dM_swap_7 : decode bM_swap 7 = .ok (.aload_n 0, 1) := by decide +kernel
theorem dM_swap_8 : decode bM_swap 8 = .ok (.getfield 17, 3) := by decide +kernel
theorem dM_swap_11 : decode bM_swap 11 = .ok (.iload_n 1, 1) := by decide +kernel
theorem dM_swap_12 : decode bM_swap 12 = .ok (.aload_n 0, 1) := by decide +kernel
theorem dM_swap_13 : decode bM_swap 13 = .ok (.getfield 17, 3) := by decide +kernel
theorem dM_swap_16 : decode bM_swap 16 = .ok (.iload_n 2, 1) := by decide +kernel
theorem dM_swap_17 : decode bM_swap 17 = .ok (.laload, 1) := by decide +kernel
theorem dM_swap_18 : decode bM_swap 18 = .ok (.lastore, 1) := by decide +kernel
theorem dM_swap_19 : decode bM_swap 19 = .ok (.aload_n 0, 1) := by decide +kernel
theorem dM_swap_20 : decode bM_swap 20 = .ok (.getfield 17, 3) := by decide +kernel
theorem dM_swap_23 : decode bM_swap 23 = .ok (.iload_n 2, 1) := by decide +kernel
theorem dM_swap_24 : decode bM_swap 24 = .ok (.lload_n 3, 1) := by decide +kernel
theorem dM_swap_25 : decode bM_swap 25 = .ok (.lastore, 1) := by decide +kernel
theorem dM_swap_26 : decode bM_swap 26 = .ok (.iconst 0, 1) := by decide +kernel
theorem dM_swap_27 : decode bM_swap 27 = .ok (.istore 5, 2) := by decide +kernel
theorem dM_swap_29 : decode bM_swap 29 = .ok (.iload 5, 2) := by decide +kernel
theorem dM_swap_31 : decode bM_swap 31 = .ok (.bipush 8, 2) := by decide +kernel
theorem dM_swap_33 : decode bM_swap 33 = .ok (.if_icmp .ge 155, 3) := by decide +kernel
theorem dM_swap_36 : decode bM_swap 36 = .ok (.bipush 8, 2) := by decide +kernel
theorem dM_swap_38 : decode bM_swap 38 = .ok (.iload_n 1, 1) := by decide +kernel
theorem dM_swap_39 : decode bM_swap 39 = .ok (.imul, 1) := by decide +kernel
theorem dM_swap_40 : decode bM_swap 40 = .ok (.iload 5, 2) := by decide +kernel
theorem dM_swap_42 : decode bM_swap 42 = .ok (.iadd, 1) := by decide +kernel
theorem dM_swap_43 : decode bM_swap 43 = .ok (.istore 6, 2) := by decide +kernel
theorem dM_swap_45 : decode bM_swap 45 = .ok (.bipush 8, 2) := by decide +kernel
theorem dM_swap_47 : decode bM_swap 47 = .ok (.iload_n 2, 1) := by decide +kernel
theorem dM_swap_48 : decode bM_swap 48 = .ok (.imul, 1) := by decide +kernel
theorem dM_swap_49 : decode bM_swap 49 = .ok (.iload 5, 2) := by decide +kernel
theorem dM_swap_51 : decode bM_swap 51 = .ok (.iadd, 1) := by decide +kernel
theorem dM_swap_52 : decode bM_swap 52 = .ok (.istore 7, 2) := by decide +kernel
theorem dM_swap_54 : decode bM_swap 54 = .ok (.aload_n 0, 1) := by decide +kernel
theorem dM_swap_55 : decode bM_swap 55 = .ok (.getfield 13, 3) := by decide +kernel
theorem dM_swap_58 : decode bM_swap 58 = .ok (.iload 6, 2) := by decide +kernel
theorem dM_swap_60 : decode bM_swap 60 = .ok (.iaload, 1) := by decide +kernel
theorem dM_swap_61 : decode bM_swap 61 = .ok (.istore 8, 2) := by decide +kernel
theorem dM_swap_63 : decode bM_swap 63 = .ok (.aload_n 0, 1) := by decide +kernel
theorem dM_swap_64 : decode bM_swap 64 = .ok (.getfield 13, 3) := by decide +kernel
theorem dM_swap_67 : decode bM_swap 67 = .ok (.iload 6, 2) := by decide +kernel
theorem dM_swap_69 : decode bM_swap 69 = .ok (.aload_n 0, 1) := by decide +kernel
theorem dM_swap_70 : decode bM_swap 70 = .ok (.getfield 13, 3) := by decide +kernel
theorem dM_swap_73 : decode bM_swap 73 = .ok (.iload 7, 2) := by decide +kernel
theorem dM_swap_75 : decode bM_swap 75 = .ok (.iaload, 1) := by decide +kernel
theorem dM_swap_76 : decode bM_swap 76 = .ok (.iastore, 1) := by decide +kernel
theorem dM_swap_77 : decode bM_swap 77 = .ok (.aload_n 0, 1) := by decide +kernel
theorem dM_swap_78 : decode bM_swap 78 = .ok (.getfield 13, 3) := by decide +kernel
theorem dM_swap_81 : decode bM_swap 81 = .ok (.iload 7, 2) := by decide +kernel
theorem dM_swap_83 : decode bM_swap 83 = .ok (.iload 8, 2) := by decide +kernel
theorem dM_swap_85 : decode bM_swap 85 = .ok (.iastore, 1) := by decide +kernel
theorem dM_swap_86 : decode bM_swap 86 = .ok (.aload_n 0, 1) := by decide +kernel
theorem dM_swap_87 : decode bM_swap 87 = .ok (.getfield 21, 3) := by decide +kernel
theorem dM_swap_90 : decode bM_swap 90 = .ok (.iload 6, 2) := by decide +kernel
theorem dM_swap_92 : decode bM_swap 92 = .ok (.laload, 1) := by decide +kernel
theorem dM_swap_93 : decode bM_swap 93 = .ok (.lstore 9, 2) := by decide +kernel
theorem dM_swap_95 : decode bM_swap 95 = .ok (.aload_n 0, 1) := by decide +kernel
theorem dM_swap_96 : decode bM_swap 96 = .ok (.getfield 21, 3) := by decide +kernel
theorem dM_swap_99 : decode bM_swap 99 = .ok (.iload 6, 2) := by decide +kernel
theorem dM_swap_101 : decode bM_swap 101 = .ok (.aload_n 0, 1) := by decide +kernel
theorem dM_swap_102 : decode bM_swap 102 = .ok (.getfield 21, 3) := by decide +kernel
theorem dM_swap_105 : decode bM_swap 105 = .ok (.iload 7, 2) := by decide +kernel
theorem dM_swap_107 : decode bM_swap 107 = .ok (.laload, 1) := by decide +kernel
theorem dM_swap_108 : decode bM_swap 108 = .ok (.lastore, 1) := by decide +kernel
theorem dM_swap_109 : decode bM_swap 109 = .ok (.aload_n 0, 1) := by decide +kernel
theorem dM_swap_110 : decode bM_swap 110 = .ok (.getfield 21, 3) := by decide +kernel
theorem dM_swap_113 : decode bM_swap 113 = .ok (.iload 7, 2) := by decide +kernel
theorem dM_swap_115 : decode bM_swap 115 = .ok (.lload 9, 2) := by decide +kernel
theorem dM_swap_117 : decode bM_swap 117 = .ok (.lastore, 1) := by decide +kernel
theorem dM_swap_118 : decode bM_swap 118 = .ok (.aload_n 0, 1) := by decide +kernel
theorem dM_swap_119 : decode bM_swap 119 = .ok (.getfield 24, 3) := by decide +kernel
theorem dM_swap_122 : decode bM_swap 122 = .ok (.iload 6, 2) := by decide +kernel
theorem dM_swap_124 : decode bM_swap 124 = .ok (.laload, 1) := by decide +kernel
theorem dM_swap_125 : decode bM_swap 125 = .ok (.lstore 11, 2) := by decide +kernel
theorem dM_swap_127 : decode bM_swap 127 = .ok (.aload_n 0, 1) := by decide +kernel
theorem dM_swap_128 : decode bM_swap 128 = .ok (.getfield 24, 3) := by decide +kernel
theorem dM_swap_131 : decode bM_swap 131 = .ok (.iload 6, 2) := by decide +kernel
theorem dM_swap_133 : decode bM_swap 133 = .ok (.aload_n 0, 1) := by decide +kernel
theorem dM_swap_134 : decode bM_swap 134 = .ok (.getfield 24, 3) := by decide +kernel
theorem dM_swap_137 : decode bM_swap 137 = .ok (.iload 7, 2) := by decide +kernel
theorem dM_swap_139 : decode bM_swap 139 = .ok (.laload, 1) := by decide +kernel
theorem dM_swap_140 : decode bM_swap 140 = .ok (.lastore, 1) := by decide +kernel
theorem dM_swap_141 : decode bM_swap 141 = .ok (.aload_n 0, 1) := by decide +kernel
theorem dM_swap_142 : decode bM_swap 142 = .ok (.getfield 24, 3) := by decide +kernel
theorem dM_swap_145 : decode bM_swap 145 = .ok (.iload 7, 2) := by decide +kernel
theorem dM_swap_147 : decode bM_swap 147 = .ok (.lload 11, 2) := by decide +kernel
theorem dM_swap_149 : decode bM_swap 149 = .ok (.lastore, 1) := by decide +kernel
theorem dM_swap_150 : decode bM_swap 150 = .ok (.aload_n 0, 1) := by decide +kernel
theorem dM_swap_151 : decode bM_swap 151 = .ok (.getfield 27, 3) := by decide +kernel
theorem dM_swap_154 : decode bM_swap 154 = .ok (.iload 6, 2) := by decide +kernel
theorem dM_swap_156 : decode bM_swap 156 = .ok (.laload, 1) := by decide +kernel
theorem dM_swap_157 : decode bM_swap 157 = .ok (.lstore 13, 2) := by decide +kernel
theorem dM_swap_159 : decode bM_swap 159 = .ok (.aload_n 0, 1) := by decide +kernel
theorem dM_swap_160 : decode bM_swap 160 = .ok (.getfield 27, 3) := by decide +kernel
theorem dM_swap_163 : decode bM_swap 163 = .ok (.iload 6, 2) := by decide +kernel
theorem dM_swap_165 : decode bM_swap 165 = .ok (.aload_n 0, 1) := by decide +kernel
theorem dM_swap_166 : decode bM_swap 166 = .ok (.getfield 27, 3) := by decide +kernel
theorem dM_swap_169 : decode bM_swap 169 = .ok (.iload 7, 2) := by decide +kernel
theorem dM_swap_171 : decode bM_swap 171 = .ok (.laload, 1) := by decide +kernel
theorem dM_swap_172 : decode bM_swap 172 = .ok (.lastore, 1) := by decide +kernel
theorem dM_swap_173 : decode bM_swap 173 = .ok (.aload_n 0, 1) := by decide +kernel
theorem dM_swap_174 : decode bM_swap 174 = .ok (.getfield 27, 3) := by decide +kernel
theorem dM_swap_177 : decode bM_swap 177 = .ok (.iload 7, 2) := by decide +kernel
theorem dM_swap_179 : decode bM_swap 179 = .ok (.lload 13, 2) := by decide +kernel
theorem dM_swap_181 : decode bM_swap 181 = .ok (.lastore, 1) := by decide +kernel
theorem dM_swap_182 : decode bM_swap 182 = .ok (.iinc 5 1, 3) := by decide +kernel
theorem dM_swap_185 : decode bM_swap 185 = .ok (.goto (-156), 3) := by decide +kernel
theorem dM_swap_188 : decode bM_swap 188 = .ok (.return_, 1) := by decide +kernel
theorem dM_rows_0 : decode bM_rows 0 = .ok (.aload_n 0, 1) := by decide +kernel
theorem dM_rows_1 : decode bM_rows 1 = .ok (.iconst 0, 1) := by decide +kernel
theorem dM_rows_2 : decode bM_rows 2 = .ok (.putfield 36, 3) := by decide +kernel
theorem dM_rows_5 : decode bM_rows 5 = .ok (.aload_n 0, 1) := by decide +kernel
theorem dM_rows_6 : decode bM_rows 6 = .ok (.getfield 42, 3) := by decide +kernel
theorem dM_rows_9 : decode bM_rows 9 = .ok (.ireturn, 1) := by decide +kernel
theorem dM_find_0 : decode bM_find 0 = .ok (.aload_n 0, 1) := by decide +kernel
theorem dM_find_1 : decode bM_find 1 = .ok (.iconst 0, 1) := by decide +kernel
theorem dM_find_2 : decode bM_find 2 = .ok (.putfield 36, 3) := by decide +kernel
theorem dM_find_5 : decode bM_find 5 = .ok (.aload_n 0, 1) := by decide +kernel
theorem dM_find_6 : decode bM_find 6 = .ok (.invokevirtual 49, 3) := by decide +kernel
theorem dM_find_9 : decode bM_find 9 = .ok (.istore_n 1, 1) := by decide +kernel
theorem dM_find_10 : decode bM_find 10 = .ok (.iload_n 1, 1) := by decide +kernel
theorem dM_find_11 : decode bM_find 11 = .ok (.aload_n 0, 1) := by decide +kernel
theorem dM_find_12 : decode bM_find 12 = .ok (.getfield 42, 3) := by decide +kernel
theorem dM_find_15 : decode bM_find 15 = .ok (.if_icmp .ge 15, 3) := by decide +kernel
theorem dM_find_18 : decode bM_find 18 = .ok (.aload_n 0, 1) := by decide +kernel
theorem dM_find_19 : decode bM_find 19 = .ok (.iload_n 1, 1) := by decide +kernel
theorem dM_find_20 : decode bM_find 20 = .ok (.invokevirtual 45, 3) := by decide +kernel
theorem dM_find_23 : decode bM_find 23 = .ok (.ifCond .ne 7, 3) := by decide +kernel
theorem dM_find_26 : decode bM_find 26 = .ok (.iload_n 1, 1) := by decide +kernel
theorem dM_find_27 : decode bM_find 27 = .ok (.goto 4, 3) := by decide +kernel
theorem dM_find_30 : decode bM_find 30 = .ok (.iconst (-1), 1) := by decide +kernel
theorem dM_find_31 : decode bM_find 31 = .ok (.ireturn, 1) := by decide +kernel
theorem dM_keyAt_0 : decode bM_keyAt 0 = .ok (.aload_n 0, 1) := by decide +kernel
theorem dM_keyAt_1 : decode bM_keyAt 1 = .ok (.aload_n 0, 1) := by decide +kernel
theorem dM_keyAt_2 : decode bM_keyAt 2 = .ok (.iload_n 1, 1) := by decide +kernel
theorem dM_keyAt_3 : decode bM_keyAt 3 = .ok (.invokevirtual 76, 3) := by decide +kernel
theorem dM_keyAt_6 : decode bM_keyAt 6 = .ok (.ifCond .eq 19, 3) := by decide +kernel
theorem dM_keyAt_9 : decode bM_keyAt 9 = .ok (.iload_n 2, 1) := by decide +kernel
theorem dM_keyAt_10 : decode bM_keyAt 10 = .ok (.ifCond .lt 15, 3) := by decide +kernel
theorem dM_keyAt_13 : decode bM_keyAt 13 = .ok (.iload_n 2, 1) := by decide +kernel
theorem dM_keyAt_14 : decode bM_keyAt 14 = .ok (.aload_n 0, 1) := by decide +kernel
theorem dM_keyAt_15 : decode bM_keyAt 15 = .ok (.getfield 39, 3) := by decide +kernel
theorem dM_keyAt_18 : decode bM_keyAt 18 = .ok (.if_icmp .ge 7, 3) := by decide +kernel
theorem dM_keyAt_21 : decode bM_keyAt 21 = .ok (.iconst 0, 1) := by decide +kernel
theorem dM_keyAt_22 : decode bM_keyAt 22 = .ok (.goto 4, 3) := by decide +kernel
theorem dM_keyAt_25 : decode bM_keyAt 25 = .ok (.iconst 1, 1) := by decide +kernel
theorem dM_keyAt_26 : decode bM_keyAt 26 = .ok (.putfield 36, 3) := by decide +kernel
theorem dM_keyAt_29 : decode bM_keyAt 29 = .ok (.aload_n 0, 1) := by decide +kernel
theorem dM_keyAt_30 : decode bM_keyAt 30 = .ok (.getfield 36, 3) := by decide +kernel
theorem dM_keyAt_33 : decode bM_keyAt 33 = .ok (.ifCond .le 7, 3) := by decide +kernel
theorem dM_keyAt_36 : decode bM_keyAt 36 = .ok (.iconst 0, 1) := by decide +kernel
theorem dM_keyAt_37 : decode bM_keyAt 37 = .ok (.goto 14, 3) := by decide +kernel
theorem dM_keyAt_40 : decode bM_keyAt 40 = .ok (.aload_n 0, 1) := by decide +kernel
theorem dM_keyAt_41 : decode bM_keyAt 41 = .ok (.getfield 13, 3) := by decide +kernel
theorem dM_keyAt_44 : decode bM_keyAt 44 = .ok (.bipush 8, 2) := by decide +kernel
theorem dM_keyAt_46 : decode bM_keyAt 46 = .ok (.iload_n 1, 1) := by decide +kernel
theorem dM_keyAt_47 : decode bM_keyAt 47 = .ok (.imul, 1) := by decide +kernel
theorem dM_keyAt_48 : decode bM_keyAt 48 = .ok (.iload_n 2, 1) := by decide +kernel
theorem dM_keyAt_49 : decode bM_keyAt 49 = .ok (.iadd, 1) := by decide +kernel
theorem dM_keyAt_50 : decode bM_keyAt 50 = .ok (.iaload, 1) := by decide +kernel
theorem dM_keyAt_51 : decode bM_keyAt 51 = .ok (.ireturn, 1) := by decide +kernel
theorem dM_isRow_0 : decode bM_isRow 0 = .ok (.iload_n 1, 1) := by decide +kernel
theorem dM_isRow_1 : decode bM_isRow 1 = .ok (.ifCond .lt 15, 3) := by decide +kernel
theorem dM_isRow_4 : decode bM_isRow 4 = .ok (.iload_n 1, 1) := by decide +kernel
theorem dM_isRow_5 : decode bM_isRow 5 = .ok (.aload_n 0, 1) := by decide +kernel
theorem dM_isRow_6 : decode bM_isRow 6 = .ok (.getfield 42, 3) := by decide +kernel
theorem dM_isRow_9 : decode bM_isRow 9 = .ok (.if_icmp .ge 7, 3) := by decide +kernel
theorem dM_isRow_12 : decode bM_isRow 12 = .ok (.iconst 1, 1) := by decide +kernel
theorem dM_isRow_13 : decode bM_isRow 13 = .ok (.goto 4, 3) := by decide +kernel
theorem dM_isRow_16 : decode bM_isRow 16 = .ok (.iconst 0, 1) := by decide +kernel
theorem dM_isRow_17 : decode bM_isRow 17 = .ok (.ireturn, 1) := by decide +kernel
theorem dM_count_0 : decode bM_count 0 = .ok (.aload_n 0, 1) := by decide +kernel
theorem dM_count_1 : decode bM_count 1 = .ok (.aload_n 0, 1) := by decide +kernel
theorem dM_count_2 : decode bM_count 2 = .ok (.iload_n 1, 1) := by decide +kernel
theorem dM_count_3 : decode bM_count 3 = .ok (.invokevirtual 76, 3) := by decide +kernel
theorem dM_count_6 : decode bM_count 6 = .ok (.ifCond .eq 7, 3) := by decide +kernel
theorem dM_count_9 : decode bM_count 9 = .ok (.iconst 0, 1) := by decide +kernel
theorem dM_count_10 : decode bM_count 10 = .ok (.goto 4, 3) := by decide +kernel
theorem dM_count_13 : decode bM_count 13 = .ok (.iconst 1, 1) := by decide +kernel
theorem dM_count_14 : decode bM_count 14 = .ok (.putfield 36, 3) := by decide +kernel
theorem dM_count_17 : decode bM_count 17 = .ok (.aload_n 0, 1) := by decide +kernel
theorem dM_count_18 : decode bM_count 18 = .ok (.getfield 36, 3) := by decide +kernel
theorem dM_count_21 : decode bM_count 21 = .ok (.ifCond .le 7, 3) := by decide +kernel
theorem dM_count_24 : decode bM_count 24 = .ok (.lconst 0, 1) := by decide +kernel
theorem dM_count_25 : decode bM_count 25 = .ok (.goto 9, 3) := by decide +kernel
theorem dM_count_28 : decode bM_count 28 = .ok (.aload_n 0, 1) := by decide +kernel
theorem dM_count_29 : decode bM_count 29 = .ok (.getfield 17, 3) := by decide +kernel
theorem dM_count_32 : decode bM_count 32 = .ok (.iload_n 1, 1) := by decide +kernel
theorem dM_count_33 : decode bM_count 33 = .ok (.laload, 1) := by decide +kernel
theorem dM_count_34 : decode bM_count 34 = .ok (.lreturn, 1) := by decide +kernel
theorem dM_told_0 : decode bM_told 0 = .ok (.aload_n 0, 1) := by decide +kernel
theorem dM_told_1 : decode bM_told 1 = .ok (.aload_n 0, 1) := by decide +kernel
theorem dM_told_2 : decode bM_told 2 = .ok (.iload_n 1, 1) := by decide +kernel
theorem dM_told_3 : decode bM_told 3 = .ok (.invokevirtual 76, 3) := by decide +kernel
theorem dM_told_6 : decode bM_told 6 = .ok (.ifCond .eq 28, 3) := by decide +kernel
theorem dM_told_9 : decode bM_told 9 = .ok (.iload_n 2, 1) := by decide +kernel
theorem dM_told_10 : decode bM_told 10 = .ok (.ifCond .lt 24, 3) := by decide +kernel
theorem dM_told_13 : decode bM_told 13 = .ok (.iload_n 2, 1) := by decide +kernel
theorem dM_told_14 : decode bM_told 14 = .ok (.aload_n 0, 1) := by decide +kernel
theorem dM_told_15 : decode bM_told 15 = .ok (.getfield 7, 3) := by decide +kernel
theorem dM_told_18 : decode bM_told 18 = .ok (.if_icmp .ge 16, 3) := by decide +kernel
theorem dM_told_21 : decode bM_told 21 = .ok (.iload_n 3, 1) := by decide +kernel
theorem dM_told_22 : decode bM_told 22 = .ok (.ifCond .lt 12, 3) := by decide +kernel
theorem dM_told_25 : decode bM_told 25 = .ok (.iload_n 3, 1) := by decide +kernel
theorem dM_told_26 : decode bM_told 26 = .ok (.iconst 2, 1) := by decide +kernel
theorem dM_told_27 : decode bM_told 27 = .ok (.if_icmp .gt 7, 3) := by decide +kernel
theorem dM_told_30 : decode bM_told 30 = .ok (.iconst 0, 1) := by decide +kernel
theorem dM_told_31 : decode bM_told 31 = .ok (.goto 4, 3) := by decide +kernel
theorem dM_told_34 : decode bM_told 34 = .ok (.iconst 1, 1) := by decide +kernel
theorem dM_told_35 : decode bM_told 35 = .ok (.putfield 36, 3) := by decide +kernel
theorem dM_told_38 : decode bM_told 38 = .ok (.aload_n 0, 1) := by decide +kernel
theorem dM_told_39 : decode bM_told 39 = .ok (.getfield 36, 3) := by decide +kernel
theorem dM_told_42 : decode bM_told 42 = .ok (.ifCond .le 5, 3) := by decide +kernel
theorem dM_told_45 : decode bM_told 45 = .ok (.lconst 0, 1) := by decide +kernel
theorem dM_told_46 : decode bM_told 46 = .ok (.lreturn, 1) := by decide +kernel
theorem dM_told_47 : decode bM_told 47 = .ok (.iload_n 3, 1) := by decide +kernel
theorem dM_told_48 : decode bM_told 48 = .ok (.ifCond .ne 17, 3) := by decide +kernel
theorem dM_told_51 : decode bM_told 51 = .ok (.aload_n 0, 1) := by decide +kernel
theorem dM_told_52 : decode bM_told 52 = .ok (.getfield 21, 3) := by decide +kernel
theorem dM_told_55 : decode bM_told 55 = .ok (.bipush 8, 2) := by decide +kernel
theorem dM_told_57 : decode bM_told 57 = .ok (.iload_n 1, 1) := by decide +kernel
theorem dM_told_58 : decode bM_told 58 = .ok (.imul, 1) := by decide +kernel
theorem dM_told_59 : decode bM_told 59 = .ok (.iload_n 2, 1) := by decide +kernel
theorem dM_told_60 : decode bM_told 60 = .ok (.iadd, 1) := by decide +kernel
theorem dM_told_61 : decode bM_told 61 = .ok (.laload, 1) := by decide +kernel
theorem dM_told_62 : decode bM_told 62 = .ok (.goto 33, 3) := by decide +kernel
theorem dM_told_65 : decode bM_told 65 = .ok (.iload_n 3, 1) := by decide +kernel
theorem dM_told_66 : decode bM_told 66 = .ok (.iconst 1, 1) := by decide +kernel
theorem dM_told_67 : decode bM_told 67 = .ok (.if_icmp .ne 17, 3) := by decide +kernel
theorem dM_told_70 : decode bM_told 70 = .ok (.aload_n 0, 1) := by decide +kernel
theorem dM_told_71 : decode bM_told 71 = .ok (.getfield 24, 3) := by decide +kernel
theorem dM_told_74 : decode bM_told 74 = .ok (.bipush 8, 2) := by decide +kernel
theorem dM_told_76 : decode bM_told 76 = .ok (.iload_n 1, 1) := by decide +kernel
theorem dM_told_77 : decode bM_told 77 = .ok (.imul, 1) := by decide +kernel
theorem dM_told_78 : decode bM_told 78 = .ok (.iload_n 2, 1) := by decide +kernel
theorem dM_told_79 : decode bM_told 79 = .ok (.iadd, 1) := by decide +kernel
theorem dM_told_80 : decode bM_told 80 = .ok (.laload, 1) := by decide +kernel
theorem dM_told_81 : decode bM_told 81 = .ok (.goto 14, 3) := by decide +kernel
theorem dM_told_84 : decode bM_told 84 = .ok (.aload_n 0, 1) := by decide +kernel
theorem dM_told_85 : decode bM_told 85 = .ok (.getfield 27, 3) := by decide +kernel
theorem dM_told_88 : decode bM_told 88 = .ok (.bipush 8, 2) := by decide +kernel
theorem dM_told_90 : decode bM_told 90 = .ok (.iload_n 1, 1) := by decide +kernel
theorem dM_told_91 : decode bM_told 91 = .ok (.imul, 1) := by decide +kernel
theorem dM_told_92 : decode bM_told 92 = .ok (.iload_n 2, 1) := by decide +kernel
theorem dM_told_93 : decode bM_told 93 = .ok (.iadd, 1) := by decide +kernel
theorem dM_told_94 : decode bM_told 94 = .ok (.laload, 1) := by decide +kernel
theorem dM_told_95 : decode bM_told 95 = .ok (.lreturn, 1) := by decide +kernel
end
section
theorem dL_begin_0 : decode bL_begin 0 = .ok (.aload_n 0, 1) := by decide +kernel
theorem dL_begin_1 : decode bL_begin 1 = .ok (.iload_n 1, 1) := by decide +kernel
theorem dL_begin_2 : decode bL_begin 2 = .ok (.iload_n 2, 1) := by decide +kernel
theorem dL_begin_3 : decode bL_begin 3 = .ok (.invokevirtual 7, 3) := by decide +kernel
theorem dL_begin_6 : decode bL_begin 6 = .ok (.goto 6, 3) := by decide +kernel
theorem dL_begin_9 : decode bL_begin 9 = .ok (.astore_n 3, 1) := by decide +kernel
theorem dL_begin_10 : decode bL_begin 10 = .ok (.iconst 1, 1) := by decide +kernel
theorem dL_begin_11 : decode bL_begin 11 = .ok (.ireturn, 1) := by decide +kernel
theorem dL_begin_12 : decode bL_begin 12 = .ok (.iconst 0, 1) := by decide +kernel
theorem dL_begin_13 : decode bL_begin 13 = .ok (.ireturn, 1) := by decide +kernel
theorem dL_key_0 : decode bL_key 0 = .ok (.aload_n 3, 1) := by decide +kernel
theorem dL_key_1 : decode bL_key 1 = .ok (.iconst 0, 1) := by decide +kernel
theorem dL_key_2 : decode bL_key 2 = .ok (.aload_n 0, 1) := by decide +kernel
theorem dL_key_3 : decode bL_key 3 = .ok (.iload_n 1, 1) := by decide +kernel
theorem dL_key_4 : decode bL_key 4 = .ok (.iload_n 2, 1) := by decide +kernel
theorem dL_key_5 : decode bL_key 5 = .ok (.invokevirtual 15, 3) := by decide +kernel
theorem dL_key_8 : decode bL_key 8 = .ok (.i2l, 1) := by decide +kernel
theorem dL_key_9 : decode bL_key 9 = .ok (.lastore, 1) := by decide +kernel
theorem dL_key_10 : decode bL_key 10 = .ok (.goto 7, 3) := by decide +kernel
theorem dL_key_13 : decode bL_key 13 = .ok (.astore 4, 2) := by decide +kernel
theorem dL_key_15 : decode bL_key 15 = .ok (.iconst 1, 1) := by decide +kernel
theorem dL_key_16 : decode bL_key 16 = .ok (.ireturn, 1) := by decide +kernel
theorem dL_key_17 : decode bL_key 17 = .ok (.iconst 0, 1) := by decide +kernel
theorem dL_key_18 : decode bL_key 18 = .ok (.ireturn, 1) := by decide +kernel
theorem dL_amount_0 : decode bL_amount 0 = .ok (.aload 4, 2) := by decide +kernel
theorem dL_amount_2 : decode bL_amount 2 = .ok (.iconst 0, 1) := by decide +kernel
theorem dL_amount_3 : decode bL_amount 3 = .ok (.aload_n 0, 1) := by decide +kernel
theorem dL_amount_4 : decode bL_amount 4 = .ok (.iload_n 1, 1) := by decide +kernel
theorem dL_amount_5 : decode bL_amount 5 = .ok (.lload_n 2, 1) := by decide +kernel
theorem dL_amount_6 : decode bL_amount 6 = .ok (.invokevirtual 19, 3) := by decide +kernel
theorem dL_amount_9 : decode bL_amount 9 = .ok (.lastore, 1) := by decide +kernel
theorem dL_amount_10 : decode bL_amount 10 = .ok (.goto 7, 3) := by decide +kernel
theorem dL_amount_13 : decode bL_amount 13 = .ok (.astore 5, 2) := by decide +kernel
theorem dL_amount_15 : decode bL_amount 15 = .ok (.iconst 1, 1) := by decide +kernel
theorem dL_amount_16 : decode bL_amount 16 = .ok (.ireturn, 1) := by decide +kernel
theorem dL_amount_17 : decode bL_amount 17 = .ok (.iconst 0, 1) := by decide +kernel
theorem dL_amount_18 : decode bL_amount 18 = .ok (.ireturn, 1) := by decide +kernel
theorem dL_add_0 : decode bL_add 0 = .ok (.aload_n 2, 1) := by decide +kernel
theorem dL_add_1 : decode bL_add 1 = .ok (.iconst 0, 1) := by decide +kernel
theorem dL_add_2 : decode bL_add 2 = .ok (.aload_n 0, 1) := by decide +kernel
theorem dL_add_3 : decode bL_add 3 = .ok (.iload_n 1, 1) := by decide +kernel
theorem dL_add_4 : decode bL_add 4 = .ok (.invokevirtual 23, 3) := by decide +kernel
theorem dL_add_7 : decode bL_add 7 = .ok (.i2l, 1) := by decide +kernel
theorem dL_add_8 : decode bL_add 8 = .ok (.lastore, 1) := by decide +kernel
theorem dL_add_9 : decode bL_add 9 = .ok (.goto 6, 3) := by decide +kernel
theorem dL_add_12 : decode bL_add 12 = .ok (.astore_n 3, 1) := by decide +kernel
theorem dL_add_13 : decode bL_add 13 = .ok (.iconst 1, 1) := by decide +kernel
theorem dL_add_14 : decode bL_add 14 = .ok (.ireturn, 1) := by decide +kernel
theorem dL_add_15 : decode bL_add 15 = .ok (.iconst 0, 1) := by decide +kernel
theorem dL_add_16 : decode bL_add 16 = .ok (.ireturn, 1) := by decide +kernel
theorem dL_spread_0 : decode bL_spread 0 = .ok (.aload 4, 2) := by decide +kernel
theorem dL_spread_2 : decode bL_spread 2 = .ok (.iconst 0, 1) := by decide +kernel
theorem dL_spread_3 : decode bL_spread 3 = .ok (.aload_n 0, 1) := by decide +kernel
theorem dL_spread_4 : decode bL_spread 4 = .ok (.iload_n 1, 1) := by decide +kernel
theorem dL_spread_5 : decode bL_spread 5 = .ok (.iload_n 2, 1) := by decide +kernel
theorem dL_spread_6 : decode bL_spread 6 = .ok (.iload_n 3, 1) := by decide +kernel
theorem dL_spread_7 : decode bL_spread 7 = .ok (.invokevirtual 27, 3) := by decide +kernel
theorem dL_spread_10 : decode bL_spread 10 = .ok (.i2l, 1) := by decide +kernel
theorem dL_spread_11 : decode bL_spread 11 = .ok (.lastore, 1) := by decide +kernel
theorem dL_spread_12 : decode bL_spread 12 = .ok (.goto 7, 3) := by decide +kernel
theorem dL_spread_15 : decode bL_spread 15 = .ok (.astore 5, 2) := by decide +kernel
theorem dL_spread_17 : decode bL_spread 17 = .ok (.iconst 1, 1) := by decide +kernel
theorem dL_spread_18 : decode bL_spread 18 = .ok (.ireturn, 1) := by decide +kernel
theorem dL_spread_19 : decode bL_spread 19 = .ok (.iconst 0, 1) := by decide +kernel
theorem dL_spread_20 : decode bL_spread 20 = .ok (.ireturn, 1) := by decide +kernel
theorem dL_roll_0 : decode bL_roll 0 = .ok (.aload_n 2, 1) := by decide +kernel
theorem dL_roll_1 : decode bL_roll 1 = .ok (.iconst 0, 1) := by decide +kernel
theorem dL_roll_2 : decode bL_roll 2 = .ok (.aload_n 0, 1) := by decide +kernel
theorem dL_roll_3 : decode bL_roll 3 = .ok (.iload_n 1, 1) := by decide +kernel
theorem dL_roll_4 : decode bL_roll 4 = .ok (.invokevirtual 31, 3) := by decide +kernel
theorem dL_roll_7 : decode bL_roll 7 = .ok (.i2l, 1) := by decide +kernel
theorem dL_roll_8 : decode bL_roll 8 = .ok (.lastore, 1) := by decide +kernel
theorem dL_roll_9 : decode bL_roll 9 = .ok (.goto 6, 3) := by decide +kernel
theorem dL_roll_12 : decode bL_roll 12 = .ok (.astore_n 3, 1) := by decide +kernel
theorem dL_roll_13 : decode bL_roll 13 = .ok (.iconst 1, 1) := by decide +kernel
theorem dL_roll_14 : decode bL_roll 14 = .ok (.ireturn, 1) := by decide +kernel
theorem dL_roll_15 : decode bL_roll 15 = .ok (.iconst 0, 1) := by decide +kernel
theorem dL_roll_16 : decode bL_roll 16 = .ok (.ireturn, 1) := by decide +kernel
theorem dL_keyAt_0 : decode bL_keyAt 0 = .ok (.aload_n 3, 1) := by decide +kernel
theorem dL_keyAt_1 : decode bL_keyAt 1 = .ok (.iconst 0, 1) := by decide +kernel
theorem dL_keyAt_2 : decode bL_keyAt 2 = .ok (.aload_n 0, 1) := by decide +kernel
theorem dL_keyAt_3 : decode bL_keyAt 3 = .ok (.iload_n 1, 1) := by decide +kernel
theorem dL_keyAt_4 : decode bL_keyAt 4 = .ok (.iload_n 2, 1) := by decide +kernel
theorem dL_keyAt_5 : decode bL_keyAt 5 = .ok (.invokevirtual 34, 3) := by decide +kernel
theorem dL_keyAt_8 : decode bL_keyAt 8 = .ok (.i2l, 1) := by decide +kernel
theorem dL_keyAt_9 : decode bL_keyAt 9 = .ok (.lastore, 1) := by decide +kernel
theorem dL_keyAt_10 : decode bL_keyAt 10 = .ok (.goto 7, 3) := by decide +kernel
theorem dL_keyAt_13 : decode bL_keyAt 13 = .ok (.astore 4, 2) := by decide +kernel
theorem dL_keyAt_15 : decode bL_keyAt 15 = .ok (.iconst 1, 1) := by decide +kernel
theorem dL_keyAt_16 : decode bL_keyAt 16 = .ok (.ireturn, 1) := by decide +kernel
theorem dL_keyAt_17 : decode bL_keyAt 17 = .ok (.iconst 0, 1) := by decide +kernel
theorem dL_keyAt_18 : decode bL_keyAt 18 = .ok (.ireturn, 1) := by decide +kernel
theorem dL_count_0 : decode bL_count 0 = .ok (.aload_n 2, 1) := by decide +kernel
theorem dL_count_1 : decode bL_count 1 = .ok (.iconst 0, 1) := by decide +kernel
theorem dL_count_2 : decode bL_count 2 = .ok (.aload_n 0, 1) := by decide +kernel
theorem dL_count_3 : decode bL_count 3 = .ok (.iload_n 1, 1) := by decide +kernel
theorem dL_count_4 : decode bL_count 4 = .ok (.invokevirtual 37, 3) := by decide +kernel
theorem dL_count_7 : decode bL_count 7 = .ok (.lastore, 1) := by decide +kernel
theorem dL_count_8 : decode bL_count 8 = .ok (.goto 6, 3) := by decide +kernel
theorem dL_count_11 : decode bL_count 11 = .ok (.astore_n 3, 1) := by decide +kernel
theorem dL_count_12 : decode bL_count 12 = .ok (.iconst 1, 1) := by decide +kernel
theorem dL_count_13 : decode bL_count 13 = .ok (.ireturn, 1) := by decide +kernel
theorem dL_count_14 : decode bL_count 14 = .ok (.iconst 0, 1) := by decide +kernel
theorem dL_count_15 : decode bL_count 15 = .ok (.ireturn, 1) := by decide +kernel
theorem dL_told_0 : decode bL_told 0 = .ok (.aload 4, 2) := by decide +kernel
theorem dL_told_2 : decode bL_told 2 = .ok (.iconst 0, 1) := by decide +kernel
theorem dL_told_3 : decode bL_told 3 = .ok (.aload_n 0, 1) := by decide +kernel
theorem dL_told_4 : decode bL_told 4 = .ok (.iload_n 1, 1) := by decide +kernel
theorem dL_told_5 : decode bL_told 5 = .ok (.iload_n 2, 1) := by decide +kernel
theorem dL_told_6 : decode bL_told 6 = .ok (.iload_n 3, 1) := by decide +kernel
theorem dL_told_7 : decode bL_told 7 = .ok (.invokevirtual 41, 3) := by decide +kernel
theorem dL_told_10 : decode bL_told 10 = .ok (.lastore, 1) := by decide +kernel
theorem dL_told_11 : decode bL_told 11 = .ok (.goto 7, 3) := by decide +kernel
theorem dL_told_14 : decode bL_told 14 = .ok (.astore 5, 2) := by decide +kernel
theorem dL_told_16 : decode bL_told 16 = .ok (.iconst 1, 1) := by decide +kernel
theorem dL_told_17 : decode bL_told 17 = .ok (.ireturn, 1) := by decide +kernel
theorem dL_told_18 : decode bL_told 18 = .ok (.iconst 0, 1) := by decide +kernel
theorem dL_told_19 : decode bL_told 19 = .ok (.ireturn, 1) := by decide +kernel
theorem dL_law_0 : decode bL_law 0 = .ok (.new 8, 3) := by decide +kernel
theorem dL_law_3 : decode bL_law 3 = .ok (.dup, 1) := by decide +kernel
theorem dL_law_4 : decode bL_law 4 = .ok (.invokespecial 45, 3) := by decide +kernel
theorem dL_law_7 : decode bL_law 7 = .ok (.astore_n 1, 1) := by decide +kernel
theorem dL_law_8 : decode bL_law 8 = .ok (.new 46, 3) := by decide +kernel
theorem dL_law_11 : decode bL_law 11 = .ok (.dup, 1) := by decide +kernel
theorem dL_law_12 : decode bL_law 12 = .ok (.invokespecial 48, 3) := by decide +kernel
theorem dL_law_15 : decode bL_law 15 = .ok (.astore_n 2, 1) := by decide +kernel
theorem dL_law_16 : decode bL_law 16 = .ok (.iconst 1, 1) := by decide +kernel
theorem dL_law_17 : decode bL_law 17 = .ok (.newarray .long, 2) := by decide +kernel
theorem dL_law_19 : decode bL_law 19 = .ok (.astore_n 3, 1) := by decide +kernel
theorem dL_law_20 : decode bL_law 20 = .ok (.iconst 0, 1) := by decide +kernel
theorem dL_law_21 : decode bL_law 21 = .ok (.istore 4, 2) := by decide +kernel
theorem dL_law_23 : decode bL_law 23 = .ok (.iload 4, 2) := by decide +kernel
theorem dL_law_25 : decode bL_law 25 = .ok (.aload_n 0, 1) := by decide +kernel
theorem dL_law_26 : decode bL_law 26 = .ok (.arraylength, 1) := by decide +kernel
theorem dL_law_27 : decode bL_law 27 = .ok (.iconst 4, 1) := by decide +kernel
theorem dL_law_28 : decode bL_law 28 = .ok (.isub, 1) := by decide +kernel
theorem dL_law_29 : decode bL_law 29 = .ok (.if_icmp .gt 708, 3) := by decide +kernel
theorem dL_law_32 : decode bL_law 32 = .ok (.aload_n 0, 1) := by decide +kernel
theorem dL_law_33 : decode bL_law 33 = .ok (.iload 4, 2) := by decide +kernel
theorem dL_law_35 : decode bL_law 35 = .ok (.iaload, 1) := by decide +kernel
theorem dL_law_36 : decode bL_law 36 = .ok (.bipush 15, 2) := by decide +kernel
theorem dL_law_38 : decode bL_law 38 = .ok (.iand, 1) := by decide +kernel
theorem dL_law_39 : decode bL_law 39 = .ok (.tableswitch 692 0 10 #[57, 105, 173, 272, 328, 408, 464, 477, 490, 558, 613], 57) := by decide +kernel
theorem dL_law_96 : decode bL_law 96 = .ok (.aload_n 1, 1) := by decide +kernel
theorem dL_law_97 : decode bL_law 97 = .ok (.aload_n 0, 1) := by decide +kernel
theorem dL_law_98 : decode bL_law 98 = .ok (.iload 4, 2) := by decide +kernel
theorem dL_law_100 : decode bL_law 100 = .ok (.iconst 1, 1) := by decide +kernel
theorem dL_law_101 : decode bL_law 101 = .ok (.iadd, 1) := by decide +kernel
theorem dL_law_102 : decode bL_law 102 = .ok (.iaload, 1) := by decide +kernel
theorem dL_law_103 : decode bL_law 103 = .ok (.aload_n 0, 1) := by decide +kernel
theorem dL_law_104 : decode bL_law 104 = .ok (.iload 4, 2) := by decide +kernel
theorem dL_law_106 : decode bL_law 106 = .ok (.iconst 2, 1) := by decide +kernel
theorem dL_law_107 : decode bL_law 107 = .ok (.iadd, 1) := by decide +kernel
theorem dL_law_108 : decode bL_law 108 = .ok (.iaload, 1) := by decide +kernel
theorem dL_law_109 : decode bL_law 109 = .ok (.invokestatic 49, 3) := by decide +kernel
theorem dL_law_112 : decode bL_law 112 = .ok (.istore 5, 2) := by decide +kernel
theorem dL_law_114 : decode bL_law 114 = .ok (.aload_n 2, 1) := by decide +kernel
theorem dL_law_115 : decode bL_law 115 = .ok (.aload_n 0, 1) := by decide +kernel
theorem dL_law_116 : decode bL_law 116 = .ok (.iload 4, 2) := by decide +kernel
theorem dL_law_118 : decode bL_law 118 = .ok (.iconst 1, 1) := by decide +kernel
theorem dL_law_119 : decode bL_law 119 = .ok (.iadd, 1) := by decide +kernel
theorem dL_law_120 : decode bL_law 120 = .ok (.iaload, 1) := by decide +kernel
theorem dL_law_121 : decode bL_law 121 = .ok (.aload_n 0, 1) := by decide +kernel
theorem dL_law_122 : decode bL_law 122 = .ok (.iload 4, 2) := by decide +kernel
theorem dL_law_124 : decode bL_law 124 = .ok (.iconst 2, 1) := by decide +kernel
theorem dL_law_125 : decode bL_law 125 = .ok (.iadd, 1) := by decide +kernel
theorem dL_law_126 : decode bL_law 126 = .ok (.iaload, 1) := by decide +kernel
theorem dL_law_127 : decode bL_law 127 = .ok (.invokevirtual 54, 3) := by decide +kernel
theorem dL_law_130 : decode bL_law 130 = .ok (.aload_n 2, 1) := by decide +kernel
theorem dL_law_131 : decode bL_law 131 = .ok (.invokevirtual 55, 3) := by decide +kernel
theorem dL_law_134 : decode bL_law 134 = .ok (.iload 5, 2) := by decide +kernel
theorem dL_law_136 : decode bL_law 136 = .ok (.if_icmp .eq 5, 3) := by decide +kernel
theorem dL_law_139 : decode bL_law 139 = .ok (.iconst 0, 1) := by decide +kernel
theorem dL_law_140 : decode bL_law 140 = .ok (.ireturn, 1) := by decide +kernel
theorem dL_law_141 : decode bL_law 141 = .ok (.goto 590, 3) := by decide +kernel
theorem dL_law_144 : decode bL_law 144 = .ok (.aload_n 1, 1) := by decide +kernel
theorem dL_law_145 : decode bL_law 145 = .ok (.aload_n 0, 1) := by decide +kernel
theorem dL_law_146 : decode bL_law 146 = .ok (.iload 4, 2) := by decide +kernel
theorem dL_law_148 : decode bL_law 148 = .ok (.iconst 1, 1) := by decide +kernel
theorem dL_law_149 : decode bL_law 149 = .ok (.iadd, 1) := by decide +kernel
theorem dL_law_150 : decode bL_law 150 = .ok (.iaload, 1) := by decide +kernel
theorem dL_law_151 : decode bL_law 151 = .ok (.aload_n 0, 1) := by decide +kernel
theorem dL_law_152 : decode bL_law 152 = .ok (.iload 4, 2) := by decide +kernel
theorem dL_law_154 : decode bL_law 154 = .ok (.iconst 2, 1) := by decide +kernel
theorem dL_law_155 : decode bL_law 155 = .ok (.iadd, 1) := by decide +kernel
theorem dL_law_156 : decode bL_law 156 = .ok (.iaload, 1) := by decide +kernel
theorem dL_law_157 : decode bL_law 157 = .ok (.aload_n 3, 1) := by decide +kernel
theorem dL_law_158 : decode bL_law 158 = .ok (.invokestatic 59, 3) := by decide +kernel
theorem dL_law_161 : decode bL_law 161 = .ok (.istore 5, 2) := by decide +kernel
theorem dL_law_163 : decode bL_law 163 = .ok (.aload_n 2, 1) := by decide +kernel
theorem dL_law_164 : decode bL_law 164 = .ok (.aload_n 0, 1) := by decide +kernel
theorem dL_law_165 : decode bL_law 165 = .ok (.iload 4, 2) := by decide +kernel
theorem dL_law_167 : decode bL_law 167 = .ok (.iconst 1, 1) := by decide +kernel
theorem dL_law_168 : decode bL_law 168 = .ok (.iadd, 1) := by decide +kernel
theorem dL_law_169 : decode bL_law 169 = .ok (.iaload, 1) := by decide +kernel
theorem dL_law_170 : decode bL_law 170 = .ok (.aload_n 0, 1) := by decide +kernel
theorem dL_law_171 : decode bL_law 171 = .ok (.iload 4, 2) := by decide +kernel
theorem dL_law_173 : decode bL_law 173 = .ok (.iconst 2, 1) := by decide +kernel
theorem dL_law_174 : decode bL_law 174 = .ok (.iadd, 1) := by decide +kernel
theorem dL_law_175 : decode bL_law 175 = .ok (.iaload, 1) := by decide +kernel
theorem dL_law_176 : decode bL_law 176 = .ok (.invokevirtual 62, 3) := by decide +kernel
theorem dL_law_179 : decode bL_law 179 = .ok (.istore 6, 2) := by decide +kernel
theorem dL_law_181 : decode bL_law 181 = .ok (.aload_n 2, 1) := by decide +kernel
theorem dL_law_182 : decode bL_law 182 = .ok (.invokevirtual 55, 3) := by decide +kernel
theorem dL_law_185 : decode bL_law 185 = .ok (.iload 5, 2) := by decide +kernel
theorem dL_law_187 : decode bL_law 187 = .ok (.if_icmp .eq 5, 3) := by decide +kernel
theorem dL_law_190 : decode bL_law 190 = .ok (.iconst 0, 1) := by decide +kernel
theorem dL_law_191 : decode bL_law 191 = .ok (.ireturn, 1) := by decide +kernel
theorem dL_law_192 : decode bL_law 192 = .ok (.iload 5, 2) := by decide +kernel
theorem dL_law_194 : decode bL_law 194 = .ok (.ifCond .ne 15, 3) := by decide +kernel
theorem dL_law_197 : decode bL_law 197 = .ok (.aload_n 3, 1) := by decide +kernel
theorem dL_law_198 : decode bL_law 198 = .ok (.iconst 0, 1) := by decide +kernel
theorem dL_law_199 : decode bL_law 199 = .ok (.laload, 1) := by decide +kernel
theorem dL_law_200 : decode bL_law 200 = .ok (.iload 6, 2) := by decide +kernel
theorem dL_law_202 : decode bL_law 202 = .ok (.i2l, 1) := by decide +kernel
theorem dL_law_203 : decode bL_law 203 = .ok (.lcmp, 1) := by decide +kernel
theorem dL_law_204 : decode bL_law 204 = .ok (.ifCond .eq 5, 3) := by decide +kernel
theorem dL_law_207 : decode bL_law 207 = .ok (.iconst 0, 1) := by decide +kernel
theorem dL_law_208 : decode bL_law 208 = .ok (.ireturn, 1) := by decide +kernel
theorem dL_law_209 : decode bL_law 209 = .ok (.goto 522, 3) := by decide +kernel
theorem dL_law_212 : decode bL_law 212 = .ok (.aload_n 1, 1) := by decide +kernel
theorem dL_law_213 : decode bL_law 213 = .ok (.aload_n 0, 1) := by decide +kernel
theorem dL_law_214 : decode bL_law 214 = .ok (.iload 4, 2) := by decide +kernel
theorem dL_law_216 : decode bL_law 216 = .ok (.iconst 1, 1) := by decide +kernel
theorem dL_law_217 : decode bL_law 217 = .ok (.iadd, 1) := by decide +kernel
theorem dL_law_218 : decode bL_law 218 = .ok (.iaload, 1) := by decide +kernel
theorem dL_law_219 : decode bL_law 219 = .ok (.aload_n 0, 1) := by decide +kernel
theorem dL_law_220 : decode bL_law 220 = .ok (.iload 4, 2) := by decide +kernel
theorem dL_law_222 : decode bL_law 222 = .ok (.iconst 2, 1) := by decide +kernel
theorem dL_law_223 : decode bL_law 223 = .ok (.iadd, 1) := by decide +kernel
theorem dL_law_224 : decode bL_law 224 = .ok (.iaload, 1) := by decide +kernel
theorem dL_law_225 : decode bL_law 225 = .ok (.i2l, 1) := by decide +kernel
theorem dL_law_226 : decode bL_law 226 = .ok (.bipush 32, 2) := by decide +kernel
theorem dL_law_228 : decode bL_law 228 = .ok (.lshl, 1) := by decide +kernel
theorem dL_law_229 : decode bL_law 229 = .ok (.aload_n 0, 1) := by decide +kernel
theorem dL_law_230 : decode bL_law 230 = .ok (.iload 4, 2) := by decide +kernel
theorem dL_law_232 : decode bL_law 232 = .ok (.iconst 3, 1) := by decide +kernel
theorem dL_law_233 : decode bL_law 233 = .ok (.iadd, 1) := by decide +kernel
theorem dL_law_234 : decode bL_law 234 = .ok (.iaload, 1) := by decide +kernel
theorem dL_law_235 : decode bL_law 235 = .ok (.i2l, 1) := by decide +kernel
theorem dL_law_236 : decode bL_law 236 = .ok (.ldc2_w 63, 3) := by decide +kernel
theorem dL_law_239 : decode bL_law 239 = .ok (.land, 1) := by decide +kernel
theorem dL_law_240 : decode bL_law 240 = .ok (.lor, 1) := by decide +kernel
theorem dL_law_241 : decode bL_law 241 = .ok (.aload_n 3, 1) := by decide +kernel
theorem dL_law_242 : decode bL_law 242 = .ok (.invokestatic 65, 3) := by decide +kernel
theorem dL_law_245 : decode bL_law 245 = .ok (.istore 5, 2) := by decide +kernel
theorem dL_law_247 : decode bL_law 247 = .ok (.aload_n 2, 1) := by decide +kernel
theorem dL_law_248 : decode bL_law 248 = .ok (.aload_n 0, 1) := by decide +kernel
theorem dL_law_249 : decode bL_law 249 = .ok (.iload 4, 2) := by decide +kernel
theorem dL_law_251 : decode bL_law 251 = .ok (.iconst 1, 1) := by decide +kernel
theorem dL_law_252 : decode bL_law 252 = .ok (.iadd, 1) := by decide +kernel
theorem dL_law_253 : decode bL_law 253 = .ok (.iaload, 1) := by decide +kernel
theorem dL_law_254 : decode bL_law 254 = .ok (.aload_n 0, 1) := by decide +kernel
theorem dL_law_255 : decode bL_law 255 = .ok (.iload 4, 2) := by decide +kernel
theorem dL_law_257 : decode bL_law 257 = .ok (.iconst 2, 1) := by decide +kernel
theorem dL_law_258 : decode bL_law 258 = .ok (.iadd, 1) := by decide +kernel
theorem dL_law_259 : decode bL_law 259 = .ok (.iaload, 1) := by decide +kernel
theorem dL_law_260 : decode bL_law 260 = .ok (.i2l, 1) := by decide +kernel
theorem dL_law_261 : decode bL_law 261 = .ok (.bipush 32, 2) := by decide +kernel
theorem dL_law_263 : decode bL_law 263 = .ok (.lshl, 1) := by decide +kernel
theorem dL_law_264 : decode bL_law 264 = .ok (.aload_n 0, 1) := by decide +kernel
theorem dL_law_265 : decode bL_law 265 = .ok (.iload 4, 2) := by decide +kernel
theorem dL_law_267 : decode bL_law 267 = .ok (.iconst 3, 1) := by decide +kernel
theorem dL_law_268 : decode bL_law 268 = .ok (.iadd, 1) := by decide +kernel
theorem dL_law_269 : decode bL_law 269 = .ok (.iaload, 1) := by decide +kernel
theorem dL_law_270 : decode bL_law 270 = .ok (.i2l, 1) := by decide +kernel
theorem dL_law_271 : decode bL_law 271 = .ok (.ldc2_w 63, 3) := by decide +kernel
theorem dL_law_274 : decode bL_law 274 = .ok (.land, 1) := by decide +kernel
theorem dL_law_275 : decode bL_law 275 = .ok (.lor, 1) := by decide +kernel
theorem dL_law_276 : decode bL_law 276 = .ok (.invokevirtual 68, 3) := by decide +kernel
theorem dL_law_279 : decode bL_law 279 = .ok (.lstore 6, 2) := by decide +kernel
theorem dL_law_281 : decode bL_law 281 = .ok (.aload_n 2, 1) := by decide +kernel
theorem dL_law_282 : decode bL_law 282 = .ok (.invokevirtual 55, 3) := by decide +kernel
theorem dL_law_285 : decode bL_law 285 = .ok (.iload 5, 2) := by decide +kernel
theorem dL_law_287 : decode bL_law 287 = .ok (.if_icmp .eq 5, 3) := by decide +kernel
theorem dL_law_290 : decode bL_law 290 = .ok (.iconst 0, 1) := by decide +kernel
theorem dL_law_291 : decode bL_law 291 = .ok (.ireturn, 1) := by decide +kernel
theorem dL_law_292 : decode bL_law 292 = .ok (.iload 5, 2) := by decide +kernel
theorem dL_law_294 : decode bL_law 294 = .ok (.ifCond .ne 14, 3) := by decide +kernel
theorem dL_law_297 : decode bL_law 297 = .ok (.aload_n 3, 1) := by decide +kernel
theorem dL_law_298 : decode bL_law 298 = .ok (.iconst 0, 1) := by decide +kernel
theorem dL_law_299 : decode bL_law 299 = .ok (.laload, 1) := by decide +kernel
theorem dL_law_300 : decode bL_law 300 = .ok (.lload 6, 2) := by decide +kernel
theorem dL_law_302 : decode bL_law 302 = .ok (.lcmp, 1) := by decide +kernel
theorem dL_law_303 : decode bL_law 303 = .ok (.ifCond .eq 5, 3) := by decide +kernel
theorem dL_law_306 : decode bL_law 306 = .ok (.iconst 0, 1) := by decide +kernel
theorem dL_law_307 : decode bL_law 307 = .ok (.ireturn, 1) := by decide +kernel
theorem dL_law_308 : decode bL_law 308 = .ok (.goto 423, 3) := by decide +kernel
theorem dL_law_311 : decode bL_law 311 = .ok (.aload_n 1, 1) := by decide +kernel
theorem dL_law_312 : decode bL_law 312 = .ok (.aload_n 0, 1) := by decide +kernel
theorem dL_law_313 : decode bL_law 313 = .ok (.iload 4, 2) := by decide +kernel
theorem dL_law_315 : decode bL_law 315 = .ok (.iconst 1, 1) := by decide +kernel
theorem dL_law_316 : decode bL_law 316 = .ok (.iadd, 1) := by decide +kernel
theorem dL_law_317 : decode bL_law 317 = .ok (.iaload, 1) := by decide +kernel
theorem dL_law_318 : decode bL_law 318 = .ok (.aload_n 3, 1) := by decide +kernel
theorem dL_law_319 : decode bL_law 319 = .ok (.invokestatic 69, 3) := by decide +kernel
theorem dL_law_322 : decode bL_law 322 = .ok (.istore 5, 2) := by decide +kernel
theorem dL_law_324 : decode bL_law 324 = .ok (.aload_n 2, 1) := by decide +kernel
theorem dL_law_325 : decode bL_law 325 = .ok (.aload_n 0, 1) := by decide +kernel
theorem dL_law_326 : decode bL_law 326 = .ok (.iload 4, 2) := by decide +kernel
theorem dL_law_328 : decode bL_law 328 = .ok (.iconst 1, 1) := by decide +kernel
theorem dL_law_329 : decode bL_law 329 = .ok (.iadd, 1) := by decide +kernel
theorem dL_law_330 : decode bL_law 330 = .ok (.iaload, 1) := by decide +kernel
theorem dL_law_331 : decode bL_law 331 = .ok (.invokevirtual 72, 3) := by decide +kernel
theorem dL_law_334 : decode bL_law 334 = .ok (.istore 6, 2) := by decide +kernel
theorem dL_law_336 : decode bL_law 336 = .ok (.aload_n 2, 1) := by decide +kernel
theorem dL_law_337 : decode bL_law 337 = .ok (.invokevirtual 55, 3) := by decide +kernel
theorem dL_law_340 : decode bL_law 340 = .ok (.iload 5, 2) := by decide +kernel
theorem dL_law_342 : decode bL_law 342 = .ok (.if_icmp .eq 5, 3) := by decide +kernel
theorem dL_law_345 : decode bL_law 345 = .ok (.iconst 0, 1) := by decide +kernel
theorem dL_law_346 : decode bL_law 346 = .ok (.ireturn, 1) := by decide +kernel
theorem dL_law_347 : decode bL_law 347 = .ok (.iload 5, 2) := by decide +kernel
theorem dL_law_349 : decode bL_law 349 = .ok (.ifCond .ne 15, 3) := by decide +kernel
theorem dL_law_352 : decode bL_law 352 = .ok (.aload_n 3, 1) := by decide +kernel
theorem dL_law_353 : decode bL_law 353 = .ok (.iconst 0, 1) := by decide +kernel
theorem dL_law_354 : decode bL_law 354 = .ok (.laload, 1) := by decide +kernel
theorem dL_law_355 : decode bL_law 355 = .ok (.iload 6, 2) := by decide +kernel
theorem dL_law_357 : decode bL_law 357 = .ok (.i2l, 1) := by decide +kernel
theorem dL_law_358 : decode bL_law 358 = .ok (.lcmp, 1) := by decide +kernel
theorem dL_law_359 : decode bL_law 359 = .ok (.ifCond .eq 5, 3) := by decide +kernel
theorem dL_law_362 : decode bL_law 362 = .ok (.iconst 0, 1) := by decide +kernel
theorem dL_law_363 : decode bL_law 363 = .ok (.ireturn, 1) := by decide +kernel
theorem dL_law_364 : decode bL_law 364 = .ok (.goto 367, 3) := by decide +kernel
theorem dL_law_367 : decode bL_law 367 = .ok (.aload_n 1, 1) := by decide +kernel
theorem dL_law_368 : decode bL_law 368 = .ok (.aload_n 0, 1) := by decide +kernel
theorem dL_law_369 : decode bL_law 369 = .ok (.iload 4, 2) := by decide +kernel
theorem dL_law_371 : decode bL_law 371 = .ok (.iconst 1, 1) := by decide +kernel
theorem dL_law_372 : decode bL_law 372 = .ok (.iadd, 1) := by decide +kernel
theorem dL_law_373 : decode bL_law 373 = .ok (.iaload, 1) := by decide +kernel
theorem dL_law_374 : decode bL_law 374 = .ok (.aload_n 0, 1) := by decide +kernel
theorem dL_law_375 : decode bL_law 375 = .ok (.iload 4, 2) := by decide +kernel
theorem dL_law_377 : decode bL_law 377 = .ok (.iconst 2, 1) := by decide +kernel
theorem dL_law_378 : decode bL_law 378 = .ok (.iadd, 1) := by decide +kernel
theorem dL_law_379 : decode bL_law 379 = .ok (.iaload, 1) := by decide +kernel
theorem dL_law_380 : decode bL_law 380 = .ok (.aload_n 0, 1) := by decide +kernel
theorem dL_law_381 : decode bL_law 381 = .ok (.iload 4, 2) := by decide +kernel
theorem dL_law_383 : decode bL_law 383 = .ok (.iconst 3, 1) := by decide +kernel
theorem dL_law_384 : decode bL_law 384 = .ok (.iadd, 1) := by decide +kernel
theorem dL_law_385 : decode bL_law 385 = .ok (.iaload, 1) := by decide +kernel
theorem dL_law_386 : decode bL_law 386 = .ok (.aload_n 3, 1) := by decide +kernel
theorem dL_law_387 : decode bL_law 387 = .ok (.invokestatic 73, 3) := by decide +kernel
theorem dL_law_390 : decode bL_law 390 = .ok (.istore 5, 2) := by decide +kernel
theorem dL_law_392 : decode bL_law 392 = .ok (.aload_n 2, 1) := by decide +kernel
theorem dL_law_393 : decode bL_law 393 = .ok (.aload_n 0, 1) := by decide +kernel
theorem dL_law_394 : decode bL_law 394 = .ok (.iload 4, 2) := by decide +kernel
theorem dL_law_396 : decode bL_law 396 = .ok (.iconst 1, 1) := by decide +kernel
theorem dL_law_397 : decode bL_law 397 = .ok (.iadd, 1) := by decide +kernel
theorem dL_law_398 : decode bL_law 398 = .ok (.iaload, 1) := by decide +kernel
theorem dL_law_399 : decode bL_law 399 = .ok (.aload_n 0, 1) := by decide +kernel
theorem dL_law_400 : decode bL_law 400 = .ok (.iload 4, 2) := by decide +kernel
theorem dL_law_402 : decode bL_law 402 = .ok (.iconst 2, 1) := by decide +kernel
theorem dL_law_403 : decode bL_law 403 = .ok (.iadd, 1) := by decide +kernel
theorem dL_law_404 : decode bL_law 404 = .ok (.iaload, 1) := by decide +kernel
theorem dL_law_405 : decode bL_law 405 = .ok (.aload_n 0, 1) := by decide +kernel
theorem dL_law_406 : decode bL_law 406 = .ok (.iload 4, 2) := by decide +kernel
theorem dL_law_408 : decode bL_law 408 = .ok (.iconst 3, 1) := by decide +kernel
theorem dL_law_409 : decode bL_law 409 = .ok (.iadd, 1) := by decide +kernel
theorem dL_law_410 : decode bL_law 410 = .ok (.iaload, 1) := by decide +kernel
theorem dL_law_411 : decode bL_law 411 = .ok (.invokevirtual 76, 3) := by decide +kernel
theorem dL_law_414 : decode bL_law 414 = .ok (.istore 6, 2) := by decide +kernel
theorem dL_law_416 : decode bL_law 416 = .ok (.aload_n 2, 1) := by decide +kernel
theorem dL_law_417 : decode bL_law 417 = .ok (.invokevirtual 55, 3) := by decide +kernel
theorem dL_law_420 : decode bL_law 420 = .ok (.iload 5, 2) := by decide +kernel
theorem dL_law_422 : decode bL_law 422 = .ok (.if_icmp .eq 5, 3) := by decide +kernel
theorem dL_law_425 : decode bL_law 425 = .ok (.iconst 0, 1) := by decide +kernel
theorem dL_law_426 : decode bL_law 426 = .ok (.ireturn, 1) := by decide +kernel
theorem dL_law_427 : decode bL_law 427 = .ok (.iload 5, 2) := by decide +kernel
theorem dL_law_429 : decode bL_law 429 = .ok (.ifCond .ne 15, 3) := by decide +kernel
theorem dL_law_432 : decode bL_law 432 = .ok (.aload_n 3, 1) := by decide +kernel
theorem dL_law_433 : decode bL_law 433 = .ok (.iconst 0, 1) := by decide +kernel
theorem dL_law_434 : decode bL_law 434 = .ok (.laload, 1) := by decide +kernel
theorem dL_law_435 : decode bL_law 435 = .ok (.iload 6, 2) := by decide +kernel
theorem dL_law_437 : decode bL_law 437 = .ok (.i2l, 1) := by decide +kernel
theorem dL_law_438 : decode bL_law 438 = .ok (.lcmp, 1) := by decide +kernel
theorem dL_law_439 : decode bL_law 439 = .ok (.ifCond .eq 5, 3) := by decide +kernel
theorem dL_law_442 : decode bL_law 442 = .ok (.iconst 0, 1) := by decide +kernel
theorem dL_law_443 : decode bL_law 443 = .ok (.ireturn, 1) := by decide +kernel
theorem dL_law_444 : decode bL_law 444 = .ok (.goto 287, 3) := by decide +kernel
theorem dL_law_447 : decode bL_law 447 = .ok (.aload_n 1, 1) := by decide +kernel
theorem dL_law_448 : decode bL_law 448 = .ok (.aload_n 0, 1) := by decide +kernel
theorem dL_law_449 : decode bL_law 449 = .ok (.iload 4, 2) := by decide +kernel
theorem dL_law_451 : decode bL_law 451 = .ok (.iconst 1, 1) := by decide +kernel
theorem dL_law_452 : decode bL_law 452 = .ok (.iadd, 1) := by decide +kernel
theorem dL_law_453 : decode bL_law 453 = .ok (.iaload, 1) := by decide +kernel
theorem dL_law_454 : decode bL_law 454 = .ok (.aload_n 3, 1) := by decide +kernel
theorem dL_law_455 : decode bL_law 455 = .ok (.invokestatic 77, 3) := by decide +kernel
theorem dL_law_458 : decode bL_law 458 = .ok (.istore 5, 2) := by decide +kernel
theorem dL_law_460 : decode bL_law 460 = .ok (.aload_n 2, 1) := by decide +kernel
theorem dL_law_461 : decode bL_law 461 = .ok (.aload_n 0, 1) := by decide +kernel
theorem dL_law_462 : decode bL_law 462 = .ok (.iload 4, 2) := by decide +kernel
theorem dL_law_464 : decode bL_law 464 = .ok (.iconst 1, 1) := by decide +kernel
theorem dL_law_465 : decode bL_law 465 = .ok (.iadd, 1) := by decide +kernel
theorem dL_law_466 : decode bL_law 466 = .ok (.iaload, 1) := by decide +kernel
theorem dL_law_467 : decode bL_law 467 = .ok (.invokevirtual 79, 3) := by decide +kernel
theorem dL_law_470 : decode bL_law 470 = .ok (.istore 6, 2) := by decide +kernel
theorem dL_law_472 : decode bL_law 472 = .ok (.aload_n 2, 1) := by decide +kernel
theorem dL_law_473 : decode bL_law 473 = .ok (.invokevirtual 55, 3) := by decide +kernel
theorem dL_law_476 : decode bL_law 476 = .ok (.iload 5, 2) := by decide +kernel
theorem dL_law_478 : decode bL_law 478 = .ok (.if_icmp .eq 5, 3) := by decide +kernel
theorem dL_law_481 : decode bL_law 481 = .ok (.iconst 0, 1) := by decide +kernel
theorem dL_law_482 : decode bL_law 482 = .ok (.ireturn, 1) := by decide +kernel
theorem dL_law_483 : decode bL_law 483 = .ok (.iload 5, 2) := by decide +kernel
theorem dL_law_485 : decode bL_law 485 = .ok (.ifCond .ne 15, 3) := by decide +kernel
theorem dL_law_488 : decode bL_law 488 = .ok (.aload_n 3, 1) := by decide +kernel
theorem dL_law_489 : decode bL_law 489 = .ok (.iconst 0, 1) := by decide +kernel
theorem dL_law_490 : decode bL_law 490 = .ok (.laload, 1) := by decide +kernel
theorem dL_law_491 : decode bL_law 491 = .ok (.iload 6, 2) := by decide +kernel
theorem dL_law_493 : decode bL_law 493 = .ok (.i2l, 1) := by decide +kernel
theorem dL_law_494 : decode bL_law 494 = .ok (.lcmp, 1) := by decide +kernel
theorem dL_law_495 : decode bL_law 495 = .ok (.ifCond .eq 5, 3) := by decide +kernel
theorem dL_law_498 : decode bL_law 498 = .ok (.iconst 0, 1) := by decide +kernel
theorem dL_law_499 : decode bL_law 499 = .ok (.ireturn, 1) := by decide +kernel
theorem dL_law_500 : decode bL_law 500 = .ok (.goto 231, 3) := by decide +kernel
theorem dL_law_503 : decode bL_law 503 = .ok (.aload_n 1, 1) := by decide +kernel
theorem dL_law_504 : decode bL_law 504 = .ok (.invokevirtual 80, 3) := by decide +kernel
theorem dL_law_507 : decode bL_law 507 = .ok (.aload_n 2, 1) := by decide +kernel
theorem dL_law_508 : decode bL_law 508 = .ok (.invokevirtual 83, 3) := by decide +kernel
theorem dL_law_511 : decode bL_law 511 = .ok (.if_icmp .eq 220, 3) := by decide +kernel
theorem dL_law_514 : decode bL_law 514 = .ok (.iconst 0, 1) := by decide +kernel
theorem dL_law_515 : decode bL_law 515 = .ok (.ireturn, 1) := by decide +kernel
theorem dL_law_516 : decode bL_law 516 = .ok (.aload_n 1, 1) := by decide +kernel
theorem dL_law_517 : decode bL_law 517 = .ok (.invokevirtual 84, 3) := by decide +kernel
theorem dL_law_520 : decode bL_law 520 = .ok (.aload_n 2, 1) := by decide +kernel
theorem dL_law_521 : decode bL_law 521 = .ok (.invokevirtual 87, 3) := by decide +kernel
theorem dL_law_524 : decode bL_law 524 = .ok (.if_icmp .eq 207, 3) := by decide +kernel
theorem dL_law_527 : decode bL_law 527 = .ok (.iconst 0, 1) := by decide +kernel
theorem dL_law_528 : decode bL_law 528 = .ok (.ireturn, 1) := by decide +kernel
theorem dL_law_529 : decode bL_law 529 = .ok (.aload_n 1, 1) := by decide +kernel
theorem dL_law_530 : decode bL_law 530 = .ok (.aload_n 0, 1) := by decide +kernel
theorem dL_law_531 : decode bL_law 531 = .ok (.iload 4, 2) := by decide +kernel
theorem dL_law_533 : decode bL_law 533 = .ok (.iconst 1, 1) := by decide +kernel
theorem dL_law_534 : decode bL_law 534 = .ok (.iadd, 1) := by decide +kernel
theorem dL_law_535 : decode bL_law 535 = .ok (.iaload, 1) := by decide +kernel
theorem dL_law_536 : decode bL_law 536 = .ok (.aload_n 0, 1) := by decide +kernel
theorem dL_law_537 : decode bL_law 537 = .ok (.iload 4, 2) := by decide +kernel
theorem dL_law_539 : decode bL_law 539 = .ok (.iconst 2, 1) := by decide +kernel
theorem dL_law_540 : decode bL_law 540 = .ok (.iadd, 1) := by decide +kernel
theorem dL_law_541 : decode bL_law 541 = .ok (.iaload, 1) := by decide +kernel
theorem dL_law_542 : decode bL_law 542 = .ok (.aload_n 3, 1) := by decide +kernel
theorem dL_law_543 : decode bL_law 543 = .ok (.invokestatic 88, 3) := by decide +kernel
theorem dL_law_546 : decode bL_law 546 = .ok (.istore 5, 2) := by decide +kernel
theorem dL_law_548 : decode bL_law 548 = .ok (.aload_n 2, 1) := by decide +kernel
theorem dL_law_549 : decode bL_law 549 = .ok (.aload_n 0, 1) := by decide +kernel
theorem dL_law_550 : decode bL_law 550 = .ok (.iload 4, 2) := by decide +kernel
theorem dL_law_552 : decode bL_law 552 = .ok (.iconst 1, 1) := by decide +kernel
theorem dL_law_553 : decode bL_law 553 = .ok (.iadd, 1) := by decide +kernel
theorem dL_law_554 : decode bL_law 554 = .ok (.iaload, 1) := by decide +kernel
theorem dL_law_555 : decode bL_law 555 = .ok (.aload_n 0, 1) := by decide +kernel
theorem dL_law_556 : decode bL_law 556 = .ok (.iload 4, 2) := by decide +kernel
theorem dL_law_558 : decode bL_law 558 = .ok (.iconst 2, 1) := by decide +kernel
theorem dL_law_559 : decode bL_law 559 = .ok (.iadd, 1) := by decide +kernel
theorem dL_law_560 : decode bL_law 560 = .ok (.iaload, 1) := by decide +kernel
theorem dL_law_561 : decode bL_law 561 = .ok (.invokevirtual 90, 3) := by decide +kernel
theorem dL_law_564 : decode bL_law 564 = .ok (.istore 6, 2) := by decide +kernel
theorem dL_law_566 : decode bL_law 566 = .ok (.aload_n 2, 1) := by decide +kernel
theorem dL_law_567 : decode bL_law 567 = .ok (.invokevirtual 55, 3) := by decide +kernel
theorem dL_law_570 : decode bL_law 570 = .ok (.iload 5, 2) := by decide +kernel
theorem dL_law_572 : decode bL_law 572 = .ok (.if_icmp .eq 5, 3) := by decide +kernel
theorem dL_law_575 : decode bL_law 575 = .ok (.iconst 0, 1) := by decide +kernel
theorem dL_law_576 : decode bL_law 576 = .ok (.ireturn, 1) := by decide +kernel
theorem dL_law_577 : decode bL_law 577 = .ok (.iload 5, 2) := by decide +kernel
theorem dL_law_579 : decode bL_law 579 = .ok (.ifCond .ne 15, 3) := by decide +kernel
theorem dL_law_582 : decode bL_law 582 = .ok (.aload_n 3, 1) := by decide +kernel
theorem dL_law_583 : decode bL_law 583 = .ok (.iconst 0, 1) := by decide +kernel
theorem dL_law_584 : decode bL_law 584 = .ok (.laload, 1) := by decide +kernel
theorem dL_law_585 : decode bL_law 585 = .ok (.iload 6, 2) := by decide +kernel
theorem dL_law_587 : decode bL_law 587 = .ok (.i2l, 1) := by decide +kernel
theorem dL_law_588 : decode bL_law 588 = .ok (.lcmp, 1) := by decide +kernel
theorem dL_law_589 : decode bL_law 589 = .ok (.ifCond .eq 5, 3) := by decide +kernel
theorem dL_law_592 : decode bL_law 592 = .ok (.iconst 0, 1) := by decide +kernel
theorem dL_law_593 : decode bL_law 593 = .ok (.ireturn, 1) := by decide +kernel
theorem dL_law_594 : decode bL_law 594 = .ok (.goto 137, 3) := by decide +kernel
theorem dL_law_597 : decode bL_law 597 = .ok (.aload_n 1, 1) := by decide +kernel
theorem dL_law_598 : decode bL_law 598 = .ok (.aload_n 0, 1) := by decide +kernel
theorem dL_law_599 : decode bL_law 599 = .ok (.iload 4, 2) := by decide +kernel
theorem dL_law_601 : decode bL_law 601 = .ok (.iconst 1, 1) := by decide +kernel
theorem dL_law_602 : decode bL_law 602 = .ok (.iadd, 1) := by decide +kernel
theorem dL_law_603 : decode bL_law 603 = .ok (.iaload, 1) := by decide +kernel
theorem dL_law_604 : decode bL_law 604 = .ok (.aload_n 3, 1) := by decide +kernel
theorem dL_law_605 : decode bL_law 605 = .ok (.invokestatic 91, 3) := by decide +kernel
theorem dL_law_608 : decode bL_law 608 = .ok (.istore 5, 2) := by decide +kernel
theorem dL_law_610 : decode bL_law 610 = .ok (.aload_n 2, 1) := by decide +kernel
theorem dL_law_611 : decode bL_law 611 = .ok (.aload_n 0, 1) := by decide +kernel
theorem dL_law_612 : decode bL_law 612 = .ok (.iload 4, 2) := by decide +kernel
theorem dL_law_614 : decode bL_law 614 = .ok (.iconst 1, 1) := by decide +kernel
theorem dL_law_615 : decode bL_law 615 = .ok (.iadd, 1) := by decide +kernel
theorem dL_law_616 : decode bL_law 616 = .ok (.iaload, 1) := by decide +kernel
theorem dL_law_617 : decode bL_law 617 = .ok (.invokevirtual 93, 3) := by decide +kernel
theorem dL_law_620 : decode bL_law 620 = .ok (.lstore 6, 2) := by decide +kernel
theorem dL_law_622 : decode bL_law 622 = .ok (.aload_n 2, 1) := by decide +kernel
theorem dL_law_623 : decode bL_law 623 = .ok (.invokevirtual 55, 3) := by decide +kernel
theorem dL_law_626 : decode bL_law 626 = .ok (.iload 5, 2) := by decide +kernel
theorem dL_law_628 : decode bL_law 628 = .ok (.if_icmp .eq 5, 3) := by decide +kernel
theorem dL_law_631 : decode bL_law 631 = .ok (.iconst 0, 1) := by decide +kernel
theorem dL_law_632 : decode bL_law 632 = .ok (.ireturn, 1) := by decide +kernel
theorem dL_law_633 : decode bL_law 633 = .ok (.iload 5, 2) := by decide +kernel
theorem dL_law_635 : decode bL_law 635 = .ok (.ifCond .ne 14, 3) := by decide +kernel
theorem dL_law_638 : decode bL_law 638 = .ok (.aload_n 3, 1) := by decide +kernel
theorem dL_law_639 : decode bL_law 639 = .ok (.iconst 0, 1) := by decide +kernel
theorem dL_law_640 : decode bL_law 640 = .ok (.laload, 1) := by decide +kernel
theorem dL_law_641 : decode bL_law 641 = .ok (.lload 6, 2) := by decide +kernel
theorem dL_law_643 : decode bL_law 643 = .ok (.lcmp, 1) := by decide +kernel
theorem dL_law_644 : decode bL_law 644 = .ok (.ifCond .eq 5, 3) := by decide +kernel
theorem dL_law_647 : decode bL_law 647 = .ok (.iconst 0, 1) := by decide +kernel
theorem dL_law_648 : decode bL_law 648 = .ok (.ireturn, 1) := by decide +kernel
theorem dL_law_649 : decode bL_law 649 = .ok (.goto 82, 3) := by decide +kernel
theorem dL_law_652 : decode bL_law 652 = .ok (.aload_n 1, 1) := by decide +kernel
theorem dL_law_653 : decode bL_law 653 = .ok (.aload_n 0, 1) := by decide +kernel
theorem dL_law_654 : decode bL_law 654 = .ok (.iload 4, 2) := by decide +kernel
theorem dL_law_656 : decode bL_law 656 = .ok (.iconst 1, 1) := by decide +kernel
theorem dL_law_657 : decode bL_law 657 = .ok (.iadd, 1) := by decide +kernel
theorem dL_law_658 : decode bL_law 658 = .ok (.iaload, 1) := by decide +kernel
theorem dL_law_659 : decode bL_law 659 = .ok (.aload_n 0, 1) := by decide +kernel
theorem dL_law_660 : decode bL_law 660 = .ok (.iload 4, 2) := by decide +kernel
theorem dL_law_662 : decode bL_law 662 = .ok (.iconst 2, 1) := by decide +kernel
theorem dL_law_663 : decode bL_law 663 = .ok (.iadd, 1) := by decide +kernel
theorem dL_law_664 : decode bL_law 664 = .ok (.iaload, 1) := by decide +kernel
theorem dL_law_665 : decode bL_law 665 = .ok (.aload_n 0, 1) := by decide +kernel
theorem dL_law_666 : decode bL_law 666 = .ok (.iload 4, 2) := by decide +kernel
theorem dL_law_668 : decode bL_law 668 = .ok (.iconst 3, 1) := by decide +kernel
theorem dL_law_669 : decode bL_law 669 = .ok (.iadd, 1) := by decide +kernel
theorem dL_law_670 : decode bL_law 670 = .ok (.iaload, 1) := by decide +kernel
theorem dL_law_671 : decode bL_law 671 = .ok (.aload_n 3, 1) := by decide +kernel
theorem dL_law_672 : decode bL_law 672 = .ok (.invokestatic 94, 3) := by decide +kernel
theorem dL_law_675 : decode bL_law 675 = .ok (.istore 5, 2) := by decide +kernel
theorem dL_law_677 : decode bL_law 677 = .ok (.aload_n 2, 1) := by decide +kernel
theorem dL_law_678 : decode bL_law 678 = .ok (.aload_n 0, 1) := by decide +kernel
theorem dL_law_679 : decode bL_law 679 = .ok (.iload 4, 2) := by decide +kernel
theorem dL_law_681 : decode bL_law 681 = .ok (.iconst 1, 1) := by decide +kernel
theorem dL_law_682 : decode bL_law 682 = .ok (.iadd, 1) := by decide +kernel
theorem dL_law_683 : decode bL_law 683 = .ok (.iaload, 1) := by decide +kernel
theorem dL_law_684 : decode bL_law 684 = .ok (.aload_n 0, 1) := by decide +kernel
theorem dL_law_685 : decode bL_law 685 = .ok (.iload 4, 2) := by decide +kernel
theorem dL_law_687 : decode bL_law 687 = .ok (.iconst 2, 1) := by decide +kernel
theorem dL_law_688 : decode bL_law 688 = .ok (.iadd, 1) := by decide +kernel
theorem dL_law_689 : decode bL_law 689 = .ok (.iaload, 1) := by decide +kernel
theorem dL_law_690 : decode bL_law 690 = .ok (.aload_n 0, 1) := by decide +kernel
theorem dL_law_691 : decode bL_law 691 = .ok (.iload 4, 2) := by decide +kernel
theorem dL_law_693 : decode bL_law 693 = .ok (.iconst 3, 1) := by decide +kernel
theorem dL_law_694 : decode bL_law 694 = .ok (.iadd, 1) := by decide +kernel
theorem dL_law_695 : decode bL_law 695 = .ok (.iaload, 1) := by decide +kernel
theorem dL_law_696 : decode bL_law 696 = .ok (.invokevirtual 96, 3) := by decide +kernel
theorem dL_law_699 : decode bL_law 699 = .ok (.lstore 6, 2) := by decide +kernel
theorem dL_law_701 : decode bL_law 701 = .ok (.aload_n 2, 1) := by decide +kernel
theorem dL_law_702 : decode bL_law 702 = .ok (.invokevirtual 55, 3) := by decide +kernel
theorem dL_law_705 : decode bL_law 705 = .ok (.iload 5, 2) := by decide +kernel
theorem dL_law_707 : decode bL_law 707 = .ok (.if_icmp .eq 5, 3) := by decide +kernel
theorem dL_law_710 : decode bL_law 710 = .ok (.iconst 0, 1) := by decide +kernel
theorem dL_law_711 : decode bL_law 711 = .ok (.ireturn, 1) := by decide +kernel
theorem dL_law_712 : decode bL_law 712 = .ok (.iload 5, 2) := by decide +kernel
theorem dL_law_714 : decode bL_law 714 = .ok (.ifCond .ne 14, 3) := by decide +kernel
theorem dL_law_717 : decode bL_law 717 = .ok (.aload_n 3, 1) := by decide +kernel
theorem dL_law_718 : decode bL_law 718 = .ok (.iconst 0, 1) := by decide +kernel
theorem dL_law_719 : decode bL_law 719 = .ok (.laload, 1) := by decide +kernel
theorem dL_law_720 : decode bL_law 720 = .ok (.lload 6, 2) := by decide +kernel
theorem dL_law_722 : decode bL_law 722 = .ok (.lcmp, 1) := by decide +kernel
theorem dL_law_723 : decode bL_law 723 = .ok (.ifCond .eq 5, 3) := by decide +kernel
theorem dL_law_726 : decode bL_law 726 = .ok (.iconst 0, 1) := by decide +kernel
theorem dL_law_727 : decode bL_law 727 = .ok (.ireturn, 1) := by decide +kernel
theorem dL_law_728 : decode bL_law 728 = .ok (.goto 3, 3) := by decide +kernel
theorem dL_law_731 : decode bL_law 731 = .ok (.iinc 4 4, 3) := by decide +kernel
theorem dL_law_734 : decode bL_law 734 = .ok (.goto (-711), 3) := by decide +kernel
theorem dL_law_737 : decode bL_law 737 = .ok (.iconst 1, 1) := by decide +kernel
theorem dL_law_738 : decode bL_law 738 = .ok (.ireturn, 1) := by decide +kernel
end
section
theorem dJO_init_0 : decode bJO_init 0 = .ok (.return_, 1) := by decide +kernel
theorem dJI_compare_0 : decode bJI_compare 0 = .ok (.iload_n 0, 1) := by decide +kernel
theorem dJI_compare_1 : decode bJI_compare 1 = .ok (.iload_n 1, 1) := by decide +kernel
theorem dJI_compare_2 : decode bJI_compare 2 = .ok (.if_icmp .ge 7, 3) := by decide +kernel
theorem dJI_compare_5 : decode bJI_compare 5 = .ok (.iconst (-1), 1) := by decide +kernel
theorem dJI_compare_6 : decode bJI_compare 6 = .ok (.goto 13, 3) := by decide +kernel
theorem dJI_compare_9 : decode bJI_compare 9 = .ok (.iload_n 0, 1) := by decide +kernel
theorem dJI_compare_10 : decode bJI_compare 10 = .ok (.iload_n 1, 1) := by decide +kernel
theorem dJI_compare_11 : decode bJI_compare 11 = .ok (.if_icmp .ne 7, 3) := by decide +kernel
theorem dJI_compare_14 : decode bJI_compare 14 = .ok (.iconst 0, 1) := by decide +kernel
theorem dJI_compare_15 : decode bJI_compare 15 = .ok (.goto 4, 3) := by decide +kernel
theorem dJI_compare_18 : decode bJI_compare 18 = .ok (.iconst 1, 1) := by decide +kernel
theorem dJI_compare_19 : decode bJI_compare 19 = .ok (.ireturn, 1) := by decide +kernel
theorem dJA_fillI_0 : decode bJA_fillI 0 = .ok (.iconst 0, 1) := by decide +kernel
theorem dJA_fillI_1 : decode bJA_fillI 1 = .ok (.istore_n 2, 1) := by decide +kernel
theorem dJA_fillI_2 : decode bJA_fillI 2 = .ok (.aload_n 0, 1) := by decide +kernel
theorem dJA_fillI_3 : decode bJA_fillI 3 = .ok (.arraylength, 1) := by decide +kernel
theorem dJA_fillI_4 : decode bJA_fillI 4 = .ok (.istore_n 3, 1) := by decide +kernel
theorem dJA_fillI_5 : decode bJA_fillI 5 = .ok (.iload_n 2, 1) := by decide +kernel
theorem dJA_fillI_6 : decode bJA_fillI 6 = .ok (.iload_n 3, 1) := by decide +kernel
theorem dJA_fillI_7 : decode bJA_fillI 7 = .ok (.if_icmp .ge 13, 3) := by decide +kernel
theorem dJA_fillI_10 : decode bJA_fillI 10 = .ok (.aload_n 0, 1) := by decide +kernel
theorem dJA_fillI_11 : decode bJA_fillI 11 = .ok (.iload_n 2, 1) := by decide +kernel
theorem dJA_fillI_12 : decode bJA_fillI 12 = .ok (.iload_n 1, 1) := by decide +kernel
theorem dJA_fillI_13 : decode bJA_fillI 13 = .ok (.iastore, 1) := by decide +kernel
theorem dJA_fillI_14 : decode bJA_fillI 14 = .ok (.iinc 2 1, 3) := by decide +kernel
theorem dJA_fillI_17 : decode bJA_fillI 17 = .ok (.goto (-12), 3) := by decide +kernel
theorem dJA_fillI_20 : decode bJA_fillI 20 = .ok (.return_, 1) := by decide +kernel
theorem dJA_fillJ_0 : decode bJA_fillJ 0 = .ok (.iconst 0, 1) := by decide +kernel
theorem dJA_fillJ_1 : decode bJA_fillJ 1 = .ok (.istore_n 3, 1) := by decide +kernel
theorem dJA_fillJ_2 : decode bJA_fillJ 2 = .ok (.aload_n 0, 1) := by decide +kernel
theorem dJA_fillJ_3 : decode bJA_fillJ 3 = .ok (.arraylength, 1) := by decide +kernel
theorem dJA_fillJ_4 : decode bJA_fillJ 4 = .ok (.istore 4, 2) := by decide +kernel
theorem dJA_fillJ_6 : decode bJA_fillJ 6 = .ok (.iload_n 3, 1) := by decide +kernel
theorem dJA_fillJ_7 : decode bJA_fillJ 7 = .ok (.iload 4, 2) := by decide +kernel
theorem dJA_fillJ_9 : decode bJA_fillJ 9 = .ok (.if_icmp .ge 13, 3) := by decide +kernel
theorem dJA_fillJ_12 : decode bJA_fillJ 12 = .ok (.aload_n 0, 1) := by decide +kernel
theorem dJA_fillJ_13 : decode bJA_fillJ 13 = .ok (.iload_n 3, 1) := by decide +kernel
theorem dJA_fillJ_14 : decode bJA_fillJ 14 = .ok (.lload_n 1, 1) := by decide +kernel
theorem dJA_fillJ_15 : decode bJA_fillJ 15 = .ok (.lastore, 1) := by decide +kernel
theorem dJA_fillJ_16 : decode bJA_fillJ 16 = .ok (.iinc 3 1, 3) := by decide +kernel
theorem dJA_fillJ_19 : decode bJA_fillJ 19 = .ok (.goto (-13), 3) := by decide +kernel
theorem dJA_fillJ_22 : decode bJA_fillJ 22 = .ok (.return_, 1) := by decide +kernel
theorem dJM_min_0 : decode bJM_min 0 = .ok (.lload_n 0, 1) := by decide +kernel
theorem dJM_min_1 : decode bJM_min 1 = .ok (.lload_n 2, 1) := by decide +kernel
theorem dJM_min_2 : decode bJM_min 2 = .ok (.lcmp, 1) := by decide +kernel
theorem dJM_min_3 : decode bJM_min 3 = .ok (.ifCond .gt 7, 3) := by decide +kernel
theorem dJM_min_6 : decode bJM_min 6 = .ok (.lload_n 0, 1) := by decide +kernel
theorem dJM_min_7 : decode bJM_min 7 = .ok (.goto 4, 3) := by decide +kernel
theorem dJM_min_10 : decode bJM_min 10 = .ok (.lload_n 2, 1) := by decide +kernel
theorem dJM_min_11 : decode bJM_min 11 = .ok (.lreturn, 1) := by decide +kernel
theorem dJM_max_0 : decode bJM_max 0 = .ok (.lload_n 0, 1) := by decide +kernel
theorem dJM_max_1 : decode bJM_max 1 = .ok (.lload_n 2, 1) := by decide +kernel
theorem dJM_max_2 : decode bJM_max 2 = .ok (.lcmp, 1) := by decide +kernel
theorem dJM_max_3 : decode bJM_max 3 = .ok (.ifCond .lt 7, 3) := by decide +kernel
theorem dJM_max_6 : decode bJM_max 6 = .ok (.lload_n 0, 1) := by decide +kernel
theorem dJM_max_7 : decode bJM_max 7 = .ok (.goto 4, 3) := by decide +kernel
theorem dJM_max_10 : decode bJM_max 10 = .ok (.lload_n 2, 1) := by decide +kernel
theorem dJM_max_11 : decode bJM_max 11 = .ok (.lreturn, 1) := by decide +kernel
end
section
/-! ROWS OF MY OWN over the kit's: an index that is a number of mine; a top of the stack under another name -/
section GI
variable {p : Program} {l : Launch} {e : Env} {R : Room} {s : State} {m : MethodId} {args : Array Value} {below : List Frame} {meth : Method} {c : Code} {H : Heap} {locs : List Loc} {cells slots : Nat} {Q : State → Prop}
variable {cc : ByteArray} {pc : Nat} {ls : Array Slot} {rest : List Value} {D : va_G} {cl : List vw_C} {A : Nat → Prop} {a : Nat} {tys : List (ClassId × FieldType)} {ws : va_W} {H0 : Heap}
theorem gi_as {x y : Int32} (h : x = y) (k : W p l e R s m args below meth c H locs cells slots Q (F0 m pc ls (.int y :: rest))) : W p l e R s m args below meth c H locs cells slots Q (F0 m pc ls (.int x :: rest)) := by
  rw [h]; exact k
theorem gi_asl {x y : Int64} (h : x = y) (k : W p l e R s m args below meth c H locs cells slots Q (F0 m pc ls (.long y :: rest))) : W p l e R s m args below meth c H locs cells slots Q (F0 m pc ls (.long x :: rest)) := by
  rw [h]; exact k
theorem gi_iald (hexec : p.tables.exec = Jvm.exec) (hb : c.code = cc) (hK : va_K D cl tys s) (hP : va_P D cl ws H) (q0 t0 : Nat) {cA : ClassId} {n : Nat} {f : Nat → Int32} (ha : ws[q0]? = some (a, .inl (cA, n, .inl f))) (ht : tys[t0]? = some (cA, .int)) {k : Nat} (hk : k < n) (hn : n < 2 ^ 31) (hdg : decode cc pc = .ok (.iaload, 1))
    (kk : W p l e R s m args below meth c H locs cells slots Q (F0 m (pc + 1) ls (.int (f k) :: rest))) : W p l e R s m args below meth c H locs cells slots Q (F0 m pc ls (.int (nI k) :: .ref a :: rest)) := by
  refine va_iald hexec hb hK hP q0 t0 ha ht (vp_in_nI hk hn) hdg ?_
  rw [nI_clamp (Nat.lt_trans hk hn)]; exact kk
theorem gi_lald (hexec : p.tables.exec = Jvm.exec) (hb : c.code = cc) (hK : va_K D cl tys s) (hP : va_P D cl ws H) (q0 t0 : Nat) {cA : ClassId} {n : Nat} {f : Nat → Int64} (ha : ws[q0]? = some (a, .inl (cA, n, .inr (.inl f)))) (ht : tys[t0]? = some (cA, .long)) {k : Nat} (hk : k < n) (hn : n < 2 ^ 31) (hdg : decode cc pc = .ok (.laload, 1))
    (kk : W p l e R s m args below meth c H locs cells slots Q (F0 m (pc + 1) ls (.long (f k) :: rest))) : W p l e R s m args below meth c H locs cells slots Q (F0 m pc ls (.int (nI k) :: .ref a :: rest)) := by
  refine va_lald hexec hb hK hP q0 t0 ha ht (vp_in_nI hk hn) hdg ?_
  rw [nI_clamp (Nat.lt_trans hk hn)]; exact kk
theorem gi_iast (hexec : p.tables.exec = Jvm.exec) (hb : c.code = cc) (hK : va_K D cl tys s) (hP : va_P D cl ws H) (hD : va_D A ws) (hS : va_S A H0 H locs) (q0 t0 : Nat) {cA : ClassId} {n : Nat} {f : Nat → Int32} (ha : ws[q0]? = some (a, .inl (cA, n, .inl f))) (ht : tys[t0]? = some (cA, .int)) {k : Nat} {x : Int32} (hk : k < n) (hn : n < 2 ^ 31) (hdg : decode cc pc = .ok (.iastore, 1))
    (kk : ∀ (H1 : Heap) (locs1 : List Loc), va_P D cl (ws.set q0 (a, .inl (cA, n, .inl (upd f k x)))) H1 → va_D A (ws.set q0 (a, .inl (cA, n, .inl (upd f k x)))) → va_S A H0 H1 locs1 → W p l e R s m args below meth c H1 locs1 cells slots Q (F0 m (pc + 1) ls rest)) : W p l e R s m args below meth c H locs cells slots Q (F0 m pc ls (.int x :: .int (nI k) :: .ref a :: rest)) := by
  refine va_iast hexec hb hK hP hD hS q0 t0 ha ht (vp_in_nI hk hn) hdg ?_
  rw [nI_clamp (Nat.lt_trans hk hn)]; exact kk
theorem gi_last (hexec : p.tables.exec = Jvm.exec) (hb : c.code = cc) (hK : va_K D cl tys s) (hP : va_P D cl ws H) (hD : va_D A ws) (hS : va_S A H0 H locs) (q0 t0 : Nat) {cA : ClassId} {n : Nat} {f : Nat → Int64} (ha : ws[q0]? = some (a, .inl (cA, n, .inr (.inl f)))) (ht : tys[t0]? = some (cA, .long)) {k : Nat} {x : Int64} (hk : k < n) (hn : n < 2 ^ 31) (hdg : decode cc pc = .ok (.lastore, 1))
    (kk : ∀ (H1 : Heap) (locs1 : List Loc), va_P D cl (ws.set q0 (a, .inl (cA, n, .inr (.inl (vp_updL f k x))))) H1 → va_D A (ws.set q0 (a, .inl (cA, n, .inr (.inl (vp_updL f k x))))) → va_S A H0 H1 locs1 → W p l e R s m args below meth c H1 locs1 cells slots Q (F0 m (pc + 1) ls rest)) : W p l e R s m args below meth c H locs cells slots Q (F0 m pc ls (.long x :: .int (nI k) :: .ref a :: rest)) := by
  refine va_last hexec hb hK hP hD hS q0 t0 ha ht (vp_in_nI hk hn) hdg ?_
  rw [nI_clamp (Nat.lt_trans hk hn)]; exact kk
end GI
theorem gi_mul8 (q : Nat) : nI q * 8 = nI (8 * q) := by
  have h := pk_mul q 8
  rw [Nat.mul_comm q 8] at h
  exact h
theorem gi_8mul (q : Nat) : 8 * nI q = nI (8 * q) := pk_mul 8 q
theorem gi_half {a : Nat} (h : a < 2 ^ 31) : nI a / 2 = nI (a / 2) := pk_div h (by decide) (by decide)
/-! calls that only read: an answer, the heap as it was -/
def QcV (v : Value) : Array Value → State → Outcome → State → Prop := fun _ st o t => o = .returned (some v) ∧ t.heap = st.heap
section GC
variable {p : Program} {l : Launch} {e : Env} {R : Room} {s : State} {m : MethodId} {args : Array Value} {below : List Frame} {meth : Method} {c : Code} {H : Heap} {locs : List Loc} {cells slots : Nat} {Q : State → Prop}
variable {pc : Nat} {ls : Array Slot} {rest st0 : List Value} {a : Array Value}
theorem gi_callR {v : Value} (hr : CallRun p l e R s m args below meth c H locs cells slots 0 0 (F0 m pc ls st0) rest (QcV v a) (fun _ => False)) (kk : W p l e R s m args below meth c H locs cells slots Q (F0 m (pc + 3) ls (v :: rest))) : W p l e R s m args below meth c H locs cells slots Q (F0 m pc ls st0) := by
  intro T hT X
  obtain ⟨v2, st₀, t, T', L, h0, X', hL, e1, ⟨hv, hh⟩, st⟩ := hr T hT X
  cases hv
  obtain ⟨t2, a1, b1⟩ := kk T' (by rw [e1, hh, h0]) (Stand.forget X' (fun q h => (hL q h).elim))
  exact ⟨t2, st t2 a1, b1⟩
end GC
theorem gb_R {av : List Value} {D : va_G} {cl : List vw_C} {ws : va_W} {tys : List (ClassId × FieldType)} : FrameBlind (va_Pc av (fun U => va_P D cl ws U.heap ∧ va_K D cl tys U)) := fun a U g mk q => ⟨q.1, q.2.1, va_K.moved (u := U) (U := U.calling g mk a) (Vm.Alike.refl U.vm) q.2.2⟩
theorem gb_W {av : List Value} {sz : Nat} {D : va_G} {cl : List vw_C} {ws : va_W} {tys : List (ClassId × FieldType)} {A : Nat → Prop} : FrameBlind (va_Pc av (fun U => U.heap.size = sz ∧ va_P D cl ws U.heap ∧ va_K D cl tys U ∧ va_D A ws)) := fun a U g mk q => ⟨q.1, q.2.1, q.2.2.1, va_K.moved (u := U) (U := U.calling g mk a) (Vm.Alike.refl U.vm) q.2.2.2.1, q.2.2.2.2⟩
end
section
/-! PURE: keys in order, the table as functions of a place; nothing of the machine here -/
/-- the order of two keys, from part i on, k parts more: -1, 0, 1 -/
def lx (f g : Nat → Int32) : Nat → Nat → Int32
  | 0, _ => 0
  | k + 1, i => if f i < g i then (-1) else if f i = g i then lx f g k (i + 1) else 1
def klt (w : Nat) (f g : Nat → Int32) : Prop := ∃ i, i < w ∧ (∀ j, j < i → f j = g j) ∧ f i < g i
def keq (w : Nat) (f g : Nat → Int32) : Prop := ∀ i, i < w → f i = g i
theorem i32_tri (a b : Int32) : a < b ∨ a = b ∨ b < a := by
  rcases Int.lt_trichotomy a.toInt b.toInt with h | h | h
  · exact Or.inl (Int32.lt_iff_toInt_lt.mpr h)
  · exact Or.inr (Or.inl (Int32.toInt_inj.mp h))
  · exact Or.inr (Or.inr (Int32.lt_iff_toInt_lt.mpr h))
theorem i32_lt_irr (a : Int32) : ¬ a < a := by
  intro h
  have := Int32.lt_iff_toInt_lt.mp h
  omega
theorem i32_lt_asymm {a b : Int32} (h : a < b) : ¬ b < a := by
  intro h2
  have h1 := Int32.lt_iff_toInt_lt.mp h
  have h3 := Int32.lt_iff_toInt_lt.mp h2
  omega
theorem i32_lt_trans {a b c : Int32} (h : a < b) (h2 : b < c) : a < c := by
  have h1 := Int32.lt_iff_toInt_lt.mp h
  have h3 := Int32.lt_iff_toInt_lt.mp h2
  exact Int32.lt_iff_toInt_lt.mpr (by omega)
theorem m1_lt0 : (-1 : Int32) < 0 := by decide
theorem n1_lt0 : ¬ (1 : Int32) < 0 := by decide
theorem n0_lt0 : ¬ (0 : Int32) < 0 := by decide
theorem lx_cases (f g : Nat → Int32) : ∀ k i, (lx f g k i = -1 ∧ ∃ j, i ≤ j ∧ j < i + k ∧ (∀ t, i ≤ t → t < j → f t = g t) ∧ f j < g j) ∨ (lx f g k i = 0 ∧ ∀ t, i ≤ t → t < i + k → f t = g t) ∨ (lx f g k i = 1 ∧ ∃ j, i ≤ j ∧ j < i + k ∧ (∀ t, i ≤ t → t < j → f t = g t) ∧ g j < f j) := by
  intro k
  induction k with
  | zero => intro i; exact Or.inr (Or.inl ⟨rfl, fun t h1 h2 => by omega⟩)
  | succ k ih =>
    intro i
    rcases i32_tri (f i) (g i) with h | h | h
    · refine Or.inl ⟨by simp [lx, h], i, Nat.le_refl _, by omega, fun t h1 h2 => by omega, h⟩
    · have e : lx f g (k + 1) i = lx f g k (i + 1) := by
        have hn : ¬ f i < g i := by rw [h]; exact i32_lt_irr _
        simp [lx, hn, h]
      have up : ∀ j, (∀ t, i + 1 ≤ t → t < j → f t = g t) → ∀ t, i ≤ t → t < j → f t = g t := fun j hj t h1 h2 => by
        rcases Nat.lt_or_ge i t with q | q
        · exact hj t q h2
        · have : t = i := by omega
          subst this; exact h
      rcases ih (i + 1) with ⟨h1, j, h2, h3, h4, h5⟩ | ⟨h1, h2⟩ | ⟨h1, j, h2, h3, h4, h5⟩
      · exact Or.inl ⟨e.trans h1, j, by omega, by omega, up j h4, h5⟩
      · exact Or.inr (Or.inl ⟨e.trans h1, fun t q1 q2 => up (i + 1 + k) h2 t q1 (by omega)⟩)
      · exact Or.inr (Or.inr ⟨e.trans h1, j, by omega, by omega, up j h4, h5⟩)
    · refine Or.inr (Or.inr ⟨?_, i, Nat.le_refl _, by omega, fun t h1 h2 => by omega, h⟩)
      have h1 : ¬ f i < g i := i32_lt_asymm h
      have h2 : ¬ f i = g i := fun q => by rw [q] at h; exact i32_lt_irr _ h
      simp [lx, h1, h2]
theorem klt_irr (w : Nat) (f : Nat → Int32) : ¬ klt w f f := fun ⟨_, _, _, h⟩ => i32_lt_irr _ h
theorem klt_not_keq {w : Nat} {f g : Nat → Int32} (h : klt w f g) : ¬ keq w f g := by
  obtain ⟨i, h1, -, h3⟩ := h
  intro q
  rw [q i h1] at h3
  exact i32_lt_irr _ h3
theorem klt_asymm {w : Nat} {f g : Nat → Int32} (h : klt w f g) : ¬ klt w g f := by
  obtain ⟨i, h1, h2, h3⟩ := h
  rintro ⟨j, q1, q2, q3⟩
  rcases Nat.lt_trichotomy i j with q | q | q
  · have := q2 i q; rw [this] at h3; exact i32_lt_irr _ h3
  · subst q; exact i32_lt_asymm h3 q3
  · have := h2 j q; rw [this] at q3; exact i32_lt_irr _ q3
theorem klt_trans {w : Nat} {f g h : Nat → Int32} (a : klt w f g) (b : klt w g h) : klt w f h := by
  obtain ⟨i, h1, h2, h3⟩ := a
  obtain ⟨j, q1, q2, q3⟩ := b
  rcases Nat.lt_trichotomy i j with q | q | q
  · exact ⟨i, h1, fun t ht => (h2 t ht).trans (q2 t (by omega)), by rw [← q2 i q]; exact h3⟩
  · subst q; exact ⟨i, h1, fun t ht => (h2 t ht).trans (q2 t ht), i32_lt_trans h3 q3⟩
  · exact ⟨j, q1, fun t ht => (h2 t (by omega)).trans (q2 t ht), by rw [h2 j q]; exact q3⟩
theorem klt_congr {w : Nat} {f g f' g' : Nat → Int32} (hf : keq w f f') (hg : keq w g g') (h : klt w f g) : klt w f' g' := by
  obtain ⟨i, h1, h2, h3⟩ := h
  exact ⟨i, h1, fun t ht => by rw [← hf t (by omega), ← hg t (by omega)]; exact h2 t ht, by rw [← hf i h1, ← hg i h1]; exact h3⟩
theorem keq_rf (w : Nat) (f : Nat → Int32) : keq w f f := fun _ _ => rfl
theorem keq_symm {w : Nat} {f g : Nat → Int32} (h : keq w f g) : keq w g f := fun i hi => (h i hi).symm
theorem keq_trans {w : Nat} {f g h : Nat → Int32} (a : keq w f g) (b : keq w g h) : keq w f h := fun i hi => (a i hi).trans (b i hi)
theorem k_tri (w : Nat) (f g : Nat → Int32) : klt w f g ∨ keq w f g ∨ klt w g f := by
  rcases lx_cases f g w 0 with ⟨-, j, -, h2, h3, h4⟩ | ⟨-, h2⟩ | ⟨-, j, -, h2, h3, h4⟩
  · exact Or.inl ⟨j, by omega, fun t ht => h3 t (by omega) ht, h4⟩
  · exact Or.inr (Or.inl fun t ht => h2 t (by omega) (by omega))
  · exact Or.inr (Or.inr ⟨j, by omega, fun t ht => (h3 t (by omega) ht).symm, h4⟩)
theorem lx_lt {w : Nat} {f g : Nat → Int32} : lx f g w 0 < 0 ↔ klt w f g := by
  rcases lx_cases f g w 0 with ⟨h1, j, -, h2, h3, h4⟩ | ⟨h1, h2⟩ | ⟨h1, j, -, h2, h3, h4⟩
  · rw [h1]; exact ⟨fun _ => ⟨j, by omega, fun t ht => h3 t (by omega) ht, h4⟩, fun _ => m1_lt0⟩
  · rw [h1]; exact ⟨fun q => absurd q n0_lt0, fun q => absurd (fun t ht => h2 t (by omega) (by omega)) (klt_not_keq q)⟩
  · rw [h1]; exact ⟨fun q => absurd q n1_lt0, fun q => absurd ⟨j, by omega, fun t ht => (h3 t (by omega) ht).symm, h4⟩ (klt_asymm q)⟩
theorem lx_eq {w : Nat} {f g : Nat → Int32} : lx f g w 0 = 0 ↔ keq w f g := by
  rcases lx_cases f g w 0 with ⟨h1, j, -, h2, h3, h4⟩ | ⟨h1, h2⟩ | ⟨h1, j, -, h2, h3, h4⟩
  · rw [h1]; exact ⟨fun q => absurd q (by decide), fun q => absurd q (klt_not_keq ⟨j, by omega, fun t ht => h3 t (by omega) ht, h4⟩)⟩
  · rw [h1]; exact ⟨fun _ t ht => h2 t (by omega) (by omega), fun _ => rfl⟩
  · rw [h1]; exact ⟨fun q => absurd q (by decide), fun q => absurd (keq_symm q) (klt_not_keq ⟨j, by omega, fun t ht => (h3 t (by omega) ht).symm, h4⟩)⟩
theorem lx_gt {w : Nat} {f g : Nat → Int32} : 0 < lx f g w 0 ↔ klt w g f := by
  rcases lx_cases f g w 0 with ⟨h1, j, -, h2, h3, h4⟩ | ⟨h1, h2⟩ | ⟨h1, j, -, h2, h3, h4⟩
  · rw [h1]; exact ⟨fun q => absurd q (by decide), fun q => absurd ⟨j, by omega, fun t ht => h3 t (by omega) ht, h4⟩ (klt_asymm q)⟩
  · rw [h1]; exact ⟨fun q => absurd q (by decide), fun q => absurd (keq_symm fun t ht => h2 t (by omega) (by omega)) (klt_not_keq q)⟩
  · rw [h1]; exact ⟨fun _ => ⟨j, by omega, fun t ht => (h3 t (by omega) ht).symm, h4⟩, fun _ => by decide⟩
/-- the rows' keys are in order -/
def srt (w n : Nat) (K : Nat → Nat → Int32) : Prop := ∀ p q, p < q → q < n → klt w (K p) (K q)
/-- how many rows have a lesser key -/
def isLow (w n : Nat) (K : Nat → Nat → Int32) (key : Nat → Int32) (ps : Nat) : Prop := ps ≤ n ∧ (∀ j, j < ps → klt w (K j) key) ∧ ∀ j, ps ≤ j → j < n → ¬ klt w (K j) key
theorem isLow_ex {w n : Nat} {K : Nat → Nat → Int32} (key : Nat → Int32) (h : srt w n K) : ∃ ps, isLow w n K key ps := by
  obtain ⟨k, h1, h2⟩ := pk_least (fun k => n ≤ k ∨ ¬ klt w (K k) key) ⟨n, Or.inl (Nat.le_refl n)⟩
  refine ⟨k, ?_, fun j hj => ?_, fun j hj hn => ?_⟩
  · rcases Nat.lt_or_ge n k with q | q
    · exact absurd (Or.inl (Nat.le_refl n)) (h2 n q)
    · exact q
  · exact Classical.byContradiction fun q => h2 j hj (Or.inr q)
  · rcases h1 with q | q
    · omega
    · intro z
      rcases Nat.lt_or_ge k j with r | r
      · exact q (klt_trans (h k j r hn) z)
      · have : k = j := by omega
        subst this; exact q z
theorem isLow_un {w n : Nat} {K : Nat → Nat → Int32} {key : Nat → Int32} {a b : Nat} (ha : isLow w n K key a) (hb : isLow w n K key b) : a = b := by
  rcases Nat.lt_trichotomy a b with q | q | q
  · exact absurd (hb.2.1 a q) (ha.2.2 a (Nat.le_refl a) (by have := hb.1; omega))
  · exact q
  · exact absurd (ha.2.1 b q) (hb.2.2 b (Nat.le_refl b) (by have := ha.1; omega))
/-- a value comes in at a place, the later ones move up -/
def insF {α : Type} (ps : Nat) (v : α) (f : Nat → α) : Nat → α := fun p => if p < ps then f p else if p = ps then v else f (p - 1)
theorem insF_lt {α : Type} {ps : Nat} {v : α} {f : Nat → α} {p : Nat} (h : p < ps) : insF ps v f p = f p := by simp [insF, h]
theorem insF_eq {α : Type} {ps : Nat} {v : α} {f : Nat → α} : insF ps v f ps = v := by simp [insF]
theorem insF_gt {α : Type} {ps : Nat} {v : α} {f : Nat → α} {p : Nat} (h : ps < p) : insF ps v f p = f (p - 1) := by
  have h1 : ¬ p < ps := by omega
  have h2 : ¬ p = ps := by omega
  simp [insF, h1, h2]
theorem srt_ins {w n ps : Nat} {K : Nat → Nat → Int32} {key : Nat → Int32} (h : srt w n K) (hl : isLow w n K key ps) (hne : ps < n → ¬ keq w (K ps) key) : srt w (n + 1) (insF ps key K) := by
  have hgt : ∀ j, ps ≤ j → j < n → klt w key (K j) := fun j h1 h2 => by
    have hps : klt w key (K ps) := by
      rcases k_tri w (K ps) key with q | q | q
      · exact absurd q (hl.2.2 ps (Nat.le_refl _) (by omega))
      · exact absurd q (hne (by omega))
      · exact q
    rcases Nat.lt_or_ge ps j with q | q
    · exact klt_trans hps (h ps j q h2)
    · have : ps = j := by omega
      subst this; exact hps
  intro p q hpq hq
  rcases Nat.lt_trichotomy q ps with a | a | a
  · rw [insF_lt (by omega), insF_lt a]; exact h p q hpq (by have := hl.1; omega)
  · subst a; rw [insF_lt hpq, insF_eq]; exact hl.2.1 p hpq
  · rw [insF_gt a]
    rcases Nat.lt_trichotomy p ps with b | b | b
    · rw [insF_lt b]; exact klt_trans (hl.2.1 p b) (hgt (q - 1) (by omega) (by omega))
    · subst b; rw [insF_eq]; exact hgt (q - 1) (by omega) (by omega)
    · rw [insF_gt b]; exact h (p - 1) (q - 1) (by omega) (by omega)
/-- two tables in order with the same keys are the same -/
theorem srt_un {w n n' : Nat} {K K' : Nat → Nat → Int32} (h : srt w n K) (h' : srt w n' K') (a : ∀ p, p < n → ∃ q, q < n' ∧ keq w (K p) (K' q)) (b : ∀ q, q < n' → ∃ p, p < n ∧ keq w (K' q) (K p)) : n = n' ∧ ∀ p, p < n → keq w (K p) (K' p) := by
  have key : ∀ p, p < n → p < n' → keq w (K p) (K' p) := by
    intro p
    induction p using Nat.strongRecOn with
    | ind p ih =>
      intro h1 h2
      rcases k_tri w (K p) (K' p) with q | q | q
      · obtain ⟨j, hj, e⟩ := a p h1
        rcases Nat.lt_or_ge j p with r | r
        · have e2 := ih j r (by omega) hj
          exact absurd (keq_trans e2 (keq_symm e)) (klt_not_keq (h j p r h1))
        · rcases Nat.lt_or_ge p j with r2 | r2
          · exact absurd e (klt_not_keq (klt_trans q (h' p j r2 hj)))
          · have : p = j := by omega
            subst this; exact e
      · exact q
      · obtain ⟨j, hj, e⟩ := b p h2
        rcases Nat.lt_or_ge j p with r | r
        · have e2 := ih j r hj (by omega)
          exact absurd (keq_trans (keq_symm e2) (keq_symm e)) (klt_not_keq (h' j p r h2))
        · rcases Nat.lt_or_ge p j with r2 | r2
          · exact absurd e (klt_not_keq (klt_trans q (h p j r2 hj)))
          · have : p = j := by omega
            subst this; exact keq_symm e
  rcases Nat.lt_trichotomy n n' with q | q | q
  · obtain ⟨j, hj, e⟩ := b n q
    exact absurd (keq_trans (keq_symm (key j hj (by omega))) (keq_symm e)) (klt_not_keq (h' j n hj q))
  · exact ⟨q, fun p hp => key p hp (by omega)⟩
  · obtain ⟨j, hj, e⟩ := a n' q
    exact absurd (keq_trans (key j (by omega) hj) (keq_symm e)) (klt_not_keq (h j n' hj q))
end
section
/-! THE TABLE, as a value: how many rows; keys, counts, sums, leasts, greatests by place -/
abbrev TB : Type := Nat × (Nat → Nat → Int32) × (Nat → Int64) × (Nat → Nat → Int64) × (Nat → Nat → Int64) × (Nat → Nat → Int64)
/-- the first place from p on, among k rows more, whose key is not less -/
def lowF (w : Nat) (K : Nat → Nat → Int32) (key : Nat → Int32) : Nat → Nat → Nat
  | 0, p => p
  | k + 1, p => if lx (K p) key w 0 < 0 then lowF w K key k (p + 1) else p
def lowP (w n : Nat) (K : Nat → Nat → Int32) (key : Nat → Int32) : Nat := lowF w K key n 0
theorem lowF_is {w n : Nat} {K : Nat → Nat → Int32} {key : Nat → Int32} (h : srt w n K) : ∀ k p, p + k = n → (∀ j, j < p → klt w (K j) key) → isLow w n K key (lowF w K key k p) := by
  intro k
  induction k with
  | zero =>
    intro p hp hj
    exact ⟨by simp [lowF]; omega, hj, fun j h1 h2 => by simp [lowF] at h1; omega⟩
  | succ k ih =>
    intro p hp hj
    by_cases q : lx (K p) key w 0 < 0
    · simp only [lowF, q, if_true]
      exact ih (p + 1) (by omega) (fun j h1 => by
        rcases Nat.lt_or_ge j p with r | r
        · exact hj j r
        · have : j = p := by omega
          subst this; exact lx_lt.mp q)
    · simp only [lowF, q, if_false]
      refine ⟨by omega, hj, fun j h1 h2 z => ?_⟩
      rcases Nat.lt_or_ge p j with r | r
      · exact q (lx_lt.mpr (klt_trans (h p j r h2) z))
      · have : p = j := by omega
        subst this; exact q (lx_lt.mpr z)
theorem lowP_is {w n : Nat} {K : Nat → Nat → Int32} {key : Nat → Int32} (h : srt w n K) : isLow w n K key (lowP w n K key) := lowF_is h n 0 (by omega) (fun j hj => by omega)
/-- the row is there -/
def hasK (w : Nat) (fk : Nat → Int32) (T : TB) : Prop := lowP w T.1 T.2.1 fk < T.1 ∧ lx (T.2.1 (lowP w T.1 T.2.1 fk)) fk w 0 = 0
/-- a fact joins the row at a place -/
def hitT (ps : Nat) (fa : Nat → Int64) (nn : Int64) (T : TB) : TB :=
  (T.1, T.2.1, va_up T.2.2.1 ps (T.2.2.1 ps + nn), va_up T.2.2.2.1 ps (fun m => T.2.2.2.1 ps m + fa m * nn), va_up T.2.2.2.2.1 ps (fun m => if fa m < T.2.2.2.2.1 ps m then fa m else T.2.2.2.2.1 ps m), va_up T.2.2.2.2.2 ps (fun m => if T.2.2.2.2.2 ps m < fa m then fa m else T.2.2.2.2.2 ps m))
/-- a fact opens a row at a place -/
def newT (ps : Nat) (fk : Nat → Int32) (fa : Nat → Int64) (nn : Int64) (T : TB) : TB :=
  (T.1 + 1, insF ps fk T.2.1, insF ps nn T.2.2.1, insF ps (fun m => fa m * nn) T.2.2.2.1, insF ps fa T.2.2.2.2.1, insF ps fa T.2.2.2.2.2)
def takeT (w : Nat) (fk : Nat → Int32) (fa : Nat → Int64) (nn : Int64) (T : TB) : TB × Bool :=
  if lowP w T.1 T.2.1 fk < T.1 ∧ lx (T.2.1 (lowP w T.1 T.2.1 fk)) fk w 0 = 0 then (hitT (lowP w T.1 T.2.1 fk) fa nn T, true)
  else if T.1 < 1000 then (newT (lowP w T.1 T.2.1 fk) fk fa nn T, true) else (T, false)
/-- the fact in the making, a step on -/
def stK (fk : Nat → Int32) (i : Nat) (step : Int32) : Nat → Int32 := upd fk i (fk i + step)
def stA (fa : Nat → Int64) (ms : Nat) (step : Int32) : Nat → Int64 := fun m => if m < ms then fa m + step.toInt64 else fa m
/-- k facts more, 'came' came before -/
def sprT (w ms i : Nat) (step : Int32) : Nat → Nat → (Nat → Int32) → (Nat → Int64) → TB → Nat × (Nat → Int32) × (Nat → Int64) × TB
  | 0, came, fk, fa, T => (came, fk, fa, T)
  | k + 1, came, fk, fa, T =>
    if (takeT w (if came = 0 then fk else stK fk i step) (if came = 0 then fa else stA fa ms step) 1 T).2 = true then
      sprT w ms i step k (came + 1) (if came = 0 then fk else stK fk i step) (if came = 0 then fa else stA fa ms step) (takeT w (if came = 0 then fk else stK fk i step) (if came = 0 then fa else stA fa ms step) 1 T).1
    else (came, if came = 0 then fk else stK fk i step, if came = 0 then fa else stA fa ms step, T)
/-- what arrays say of a table: row p lies at the slot σ p -/
def repT (σ : Nat → Nat) (w ms : Nat) (T : TB) (ks : Nat → Int32) (ct sm le gr : Nat → Int64) : Prop :=
  (w ≤ 8 ∧ 1 ≤ ms ∧ ms ≤ 8 ∧ T.1 ≤ 1000) ∧ (∀ p, p < T.1 → keq w (fun i => ks (8 * σ p + i)) (T.2.1 p)) ∧ (∀ p, p < T.1 → ct (σ p) = T.2.2.1 p) ∧
  (∀ p m, p < T.1 → m < ms → sm (8 * σ p + m) = T.2.2.2.1 p m ∧ le (8 * σ p + m) = T.2.2.2.2.1 p m ∧ gr (8 * σ p + m) = T.2.2.2.2.2 p m) ∧ srt w T.1 T.2.1
/-- the slots: each number once -/
def perm (σ : Nat → Nat) (sl : Nat → Int32) : Prop := (∀ p, p < 1000 → sl p = nI (σ p)) ∧ (∀ p, p < 1000 → σ p < 1000) ∧ ∀ p q, p < 1000 → q < 1000 → σ p = σ q → p = q
end
section
/-! ROLL, as a relation of tables: in order, the same keys, each row of all the rows that are alike, in their turn -/
/-- of the first n rows those whose key is like 'key', joined one after the other -/
def agg (w : Nat) (Kr : Nat → Nat → Int32) (key : Nat → Int32) (v : Nat → Int64) (jn : Int64 → Int64 → Int64) : Nat → Option Int64
  | 0 => none
  | n + 1 => if lx (Kr n) key w 0 = 0 then some (match agg w Kr key v jn n with | none => v n | some x => jn x (v n)) else agg w Kr key v jn n
def jnS (x y : Int64) : Int64 := x + y
def jnL (x y : Int64) : Int64 := if y < x then y else x
def jnG (x y : Int64) : Int64 := if x < y then y else x
theorem agg_no {w : Nat} {Kr : Nat → Nat → Int32} {key : Nat → Int32} {v : Nat → Int64} {jn : Int64 → Int64 → Int64} : ∀ n, (∀ p, p < n → ¬ keq w (Kr p) key) → agg w Kr key v jn n = none := by
  intro n
  induction n with
  | zero => intro _; rfl
  | succ n ih =>
    intro h
    have h1 : ¬ lx (Kr n) key w 0 = 0 := fun q => h n (Nat.lt_succ_self n) (lx_eq.mp q)
    simp only [agg, h1, if_false]
    exact ih fun p hp => h p (by omega)
theorem agg_skip {w n : Nat} {Kr : Nat → Nat → Int32} {key : Nat → Int32} {v : Nat → Int64} {jn : Int64 → Int64 → Int64} (h : ¬ keq w (Kr n) key) : agg w Kr key v jn (n + 1) = agg w Kr key v jn n := by
  have h1 : ¬ lx (Kr n) key w 0 = 0 := fun q => h (lx_eq.mp q)
  simp only [agg, h1, if_false]
theorem agg_first {w n : Nat} {Kr : Nat → Nat → Int32} {key : Nat → Int32} {v : Nat → Int64} {jn : Int64 → Int64 → Int64} (h : keq w (Kr n) key) (h0 : agg w Kr key v jn n = none) : agg w Kr key v jn (n + 1) = some (v n) := by
  have h1 : lx (Kr n) key w 0 = 0 := lx_eq.mpr h
  simp only [agg, h1, if_true, h0]
theorem agg_next {w n : Nat} {Kr : Nat → Nat → Int32} {key : Nat → Int32} {v : Nat → Int64} {jn : Int64 → Int64 → Int64} {x : Int64} (h : keq w (Kr n) key) (h0 : agg w Kr key v jn n = some x) : agg w Kr key v jn (n + 1) = some (jn x (v n)) := by
  have h1 : lx (Kr n) key w 0 = 0 := lx_eq.mpr h
  simp only [agg, h1, if_true, h0]
theorem lx_congr {w : Nat} {f g g' : Nat → Int32} (h : keq w g g') : lx f g w 0 = 0 ↔ lx f g' w 0 = 0 := by
  rw [lx_eq, lx_eq]
  exact ⟨fun q => keq_trans q h, fun q => keq_trans q (keq_symm h)⟩
theorem agg_congr {w : Nat} {Kr : Nat → Nat → Int32} {key key' : Nat → Int32} {v : Nat → Int64} {jn : Int64 → Int64 → Int64} (h : keq w key key') : ∀ n, agg w Kr key v jn n = agg w Kr key' v jn n := by
  intro n
  induction n with
  | zero => rfl
  | succ n ih =>
    by_cases q : lx (Kr n) key w 0 = 0
    · have q2 := (lx_congr (f := Kr n) h).mp q
      simp only [agg, q, q2, if_true, ih]
    · have q2 : ¬ lx (Kr n) key' w 0 = 0 := fun z => q ((lx_congr (f := Kr n) h).mpr z)
      simp only [agg, q, q2, if_false, ih]
/-- the first p rows (keys Kr, values of T) have been put together into the k rows with the keys K1 and values C1 .. -/
def grp (w ms p : Nat) (Kr : Nat → Nat → Int32) (C : Nat → Int64) (S L G : Nat → Nat → Int64) (k : Nat) (K1 : Nat → Nat → Int32) (C1 : Nat → Int64) (S1 L1 G1 : Nat → Nat → Int64) : Prop :=
  (∀ j, j < k → ∃ q, q < p ∧ keq w (Kr q) (K1 j)) ∧ (∀ q, q < p → ∃ j, j < k ∧ keq w (Kr q) (K1 j)) ∧ (∀ i j, i < k → j < k → keq w (K1 i) (K1 j) → i = j) ∧
  (∀ j, j < k → agg w Kr (K1 j) C jnS p = some (C1 j)) ∧
  (∀ j m, j < k → m < ms → agg w Kr (K1 j) (fun r => S r m) jnS p = some (S1 j m) ∧ agg w Kr (K1 j) (fun r => L r m) jnL p = some (L1 j m) ∧ agg w Kr (K1 j) (fun r => G r m) jnG p = some (G1 j m))
theorem grp_0 (w ms : Nat) (Kr : Nat → Nat → Int32) (C : Nat → Int64) (S L G : Nat → Nat → Int64) (K1 : Nat → Nat → Int32) (C1 : Nat → Int64) (S1 L1 G1 : Nat → Nat → Int64) : grp w ms 0 Kr C S L G 0 K1 C1 S1 L1 G1 :=
  ⟨fun j h => by omega, fun q h => by omega, fun i j h => by omega, fun j h => by omega, fun j m h => by omega⟩
/-- one more row, like the row at j0: it joins -/
theorem grp_hit {w ms p : Nat} {Kr : Nat → Nat → Int32} {C : Nat → Int64} {S L G : Nat → Nat → Int64} {k : Nat} {K1 K2 : Nat → Nat → Int32} {C1 C2 : Nat → Int64} {S1 L1 G1 S2 L2 G2 : Nat → Nat → Int64} (h : grp w ms p Kr C S L G k K1 C1 S1 L1 G1) {j0 : Nat} (hj : j0 < k) (he : keq w (Kr p) (K1 j0))
    (hK : ∀ j, j < k → keq w (K1 j) (K2 j)) (hC : ∀ j, j < k → C2 j = if j = j0 then jnS (C1 j0) (C p) else C1 j)
    (hV : ∀ j m, j < k → m < ms → S2 j m = (if j = j0 then jnS (S1 j0 m) (S p m) else S1 j m) ∧ L2 j m = (if j = j0 then jnL (L1 j0 m) (L p m) else L1 j m) ∧ G2 j m = (if j = j0 then jnG (G1 j0 m) (G p m) else G1 j m)) : grp w ms (p + 1) Kr C S L G k K2 C2 S2 L2 G2 := by
  obtain ⟨h1, h2, h3, h4, h5⟩ := h
  have ne : ∀ j, j < k → j ≠ j0 → ¬ keq w (Kr p) (K1 j) := fun j a b q => b (h3 j j0 a hj (keq_trans (keq_symm q) he))
  have one : ∀ (v : Nat → Int64) (jn : Int64 → Int64 → Int64) (j : Nat) (x y : Int64), j < k → agg w Kr (K1 j) v jn p = some x → y = (if j = j0 then jn x (v p) else x) → agg w Kr (K2 j) v jn (p + 1) = some y := by
    intro v jn j x y a b e
    rw [← agg_congr (hK j a)]
    by_cases q : j = j0
    · subst q; rw [agg_next he b, e, if_pos rfl]
    · rw [agg_skip (ne j a q), b, e, if_neg q]
  refine ⟨fun j a => ?_, fun q a => ?_, fun i j a b c => ?_, fun j a => ?_, fun j m a b => ⟨?_, ?_, ?_⟩⟩
  · obtain ⟨q, q1, q2⟩ := h1 j a
    exact ⟨q, by omega, keq_trans q2 (hK j a)⟩
  · rcases Nat.lt_or_ge q p with r | r
    · obtain ⟨j, q1, q2⟩ := h2 q r
      exact ⟨j, q1, keq_trans q2 (hK j q1)⟩
    · have : q = p := by omega
      subst this; exact ⟨j0, hj, keq_trans he (hK j0 hj)⟩
  · exact h3 i j a b (keq_trans (hK i a) (keq_trans c (keq_symm (hK j b))))
  · exact one C jnS j (C1 j) (C2 j) a (h4 j a) (by rw [hC j a]; by_cases q : j = j0 <;> simp [q])
  · exact one (fun r => S r m) jnS j (S1 j m) (S2 j m) a (h5 j m a b).1 (by rw [(hV j m a b).1]; by_cases q : j = j0 <;> simp [q])
  · exact one (fun r => L r m) jnL j (L1 j m) (L2 j m) a (h5 j m a b).2.1 (by rw [(hV j m a b).2.1]; by_cases q : j = j0 <;> simp [q])
  · exact one (fun r => G r m) jnG j (G1 j m) (G2 j m) a (h5 j m a b).2.2 (by rw [(hV j m a b).2.2]; by_cases q : j = j0 <;> simp [q])
/-- one more row, like none: it comes in at a place -/
theorem grp_new {w ms p : Nat} {Kr : Nat → Nat → Int32} {C : Nat → Int64} {S L G : Nat → Nat → Int64} {k : Nat} {K1 K2 : Nat → Nat → Int32} {C1 C2 : Nat → Int64} {S1 L1 G1 S2 L2 G2 : Nat → Nat → Int64} (h : grp w ms p Kr C S L G k K1 C1 S1 L1 G1) {ps : Nat} (hp : ps ≤ k) (hne : ∀ j, j < k → ¬ keq w (Kr p) (K1 j))
    (hK : ∀ j, j < k + 1 → keq w (insF ps (Kr p) K1 j) (K2 j)) (hC : ∀ j, j < k + 1 → C2 j = insF ps (C p) C1 j)
    (hV : ∀ j m, j < k + 1 → m < ms → S2 j m = insF ps (S p) S1 j m ∧ L2 j m = insF ps (L p) L1 j m ∧ G2 j m = insF ps (G p) G1 j m) : grp w ms (p + 1) Kr C S L G (k + 1) K2 C2 S2 L2 G2 := by
  obtain ⟨h1, h2, h3, h4, h5⟩ := h
  have none0 : ∀ (v : Nat → Int64) (jn : Int64 → Int64 → Int64), agg w Kr (Kr p) v jn p = none := fun v jn => agg_no p fun q a e => by
    obtain ⟨j, q1, q2⟩ := h2 q a
    exact hne j q1 (keq_trans (keq_symm e) q2)
  -- each place of the new rows: the new one, or an old one's
  have cs : ∀ j, j < k + 1 → (j = ps ∧ (∀ (α : Type) (v : α) (f : Nat → α), insF ps v f j = v)) ∨ ∃ j', j' < k ∧ (∀ (α : Type) (v : α) (f : Nat → α), insF ps v f j = f j') ∧ j = (if j' < ps then j' else j' + 1) := by
    intro j a
    rcases Nat.lt_trichotomy j ps with q | q | q
    · exact Or.inr ⟨j, by omega, fun α v f => insF_lt q, by rw [if_pos q]⟩
    · subst q; exact Or.inl ⟨rfl, fun α v f => insF_eq⟩
    · exact Or.inr ⟨j - 1, by omega, fun α v f => insF_gt q, by rw [if_neg (by omega)]; omega⟩
  have one : ∀ (v : Nat → Int64) (jn : Int64 → Int64 → Int64) (f : Nat → Int64) (j : Nat) (y : Int64), j < k + 1 → (∀ j', j' < k → agg w Kr (K1 j') v jn p = some (f j')) → y = insF ps (v p) f j → agg w Kr (K2 j) v jn (p + 1) = some y := by
    intro v jn f j y a b e
    rw [← agg_congr (hK j a)]
    rcases cs j a with ⟨-, q⟩ | ⟨j', q1, q, -⟩
    · rw [q, e, q]; exact agg_first (keq_rf _ _) (none0 v jn)
    · rw [q, e, q, agg_skip (hne j' q1)]; exact b j' q1
  refine ⟨fun j a => ?_, fun q a => ?_, fun i j a b c => ?_, fun j a => ?_, fun j m a b => ⟨?_, ?_, ?_⟩⟩
  · rcases cs j a with ⟨-, q⟩ | ⟨j', q1, q, -⟩
    · exact ⟨p, by omega, by have := hK j a; rw [q] at this; exact this⟩
    · obtain ⟨r, r1, r2⟩ := h1 j' q1
      exact ⟨r, by omega, keq_trans r2 (by have := hK j a; rw [q] at this; exact this)⟩
  · rcases Nat.lt_or_ge q p with r | r
    · obtain ⟨j, q1, q2⟩ := h2 q r
      rcases Nat.lt_or_ge j ps with z | z
      · have := hK j (by omega); rw [insF_lt z] at this
        exact ⟨j, by omega, keq_trans q2 this⟩
      · have := hK (j + 1) (by omega); rw [insF_gt (by omega), Nat.add_sub_cancel] at this
        exact ⟨j + 1, by omega, keq_trans q2 this⟩
    · have e : q = p := by omega
      subst e
      have := hK ps (by omega); rw [insF_eq] at this
      exact ⟨ps, by omega, this⟩
  · have c' := keq_trans (hK i a) (keq_trans c (keq_symm (hK j b)))
    rcases cs i a with ⟨e1, q1⟩ | ⟨i', r1, q1, e1⟩ <;> rcases cs j b with ⟨e2, q2⟩ | ⟨j', r2, q2, e2⟩
    · omega
    · rw [q1, q2] at c'; exact absurd c' (hne j' r2)
    · rw [q1, q2] at c'; exact absurd (keq_symm c') (hne i' r1)
    · rw [q1, q2] at c'
      have := h3 i' j' r1 r2 c'
      subst this; omega
  · exact one C jnS C1 j (C2 j) a h4 (hC j a)
  · exact one (fun r => S r m) jnS (fun r => S1 r m) j (S2 j m) a (fun j' q => (h5 j' m q b).1) (by rw [(hV j m a b).1]; rcases cs j a with ⟨-, q⟩ | ⟨j', -, q, -⟩ <;> rw [q, q])
  · exact one (fun r => L r m) jnL (fun r => L1 r m) j (L2 j m) a (fun j' q => (h5 j' m q b).2.1) (by rw [(hV j m a b).2.1]; rcases cs j a with ⟨-, q⟩ | ⟨j', -, q, -⟩ <;> rw [q, q])
  · exact one (fun r => G r m) jnG (fun r => G1 r m) j (G2 j m) a (fun j' q => (h5 j' m q b).2.2) (by rw [(hV j m a b).2.2]; rcases cs j a with ⟨-, q⟩ | ⟨j', -, q, -⟩ <;> rw [q, q])
/-- the keys with part i rolled up -/
def rolK (i : Nat) (K : Nat → Nat → Int32) : Nat → Nat → Int32 := fun p j => if j = i then 2147483647 else K p j
def rollR (w ms i : Nat) (T T' : TB) : Prop := srt w T'.1 T'.2.1 ∧ T'.1 ≤ T.1 ∧ grp w ms T.1 (rolK i T.2.1) T.2.2.1 T.2.2.2.1 T.2.2.2.2.1 T.2.2.2.2.2 T'.1 T'.2.1 T'.2.2.1 T'.2.2.2.1 T'.2.2.2.2.1 T'.2.2.2.2.2
theorem rollR_un {w ms i : Nat} {T T1 T2 : TB} (h1 : rollR w ms i T T1) (h2 : rollR w ms i T T2) : T1.1 = T2.1 ∧ (∀ p, p < T1.1 → keq w (T1.2.1 p) (T2.2.1 p)) ∧ (∀ p, p < T1.1 → T1.2.2.1 p = T2.2.2.1 p) ∧ (∀ p m, p < T1.1 → m < ms → T1.2.2.2.1 p m = T2.2.2.2.1 p m ∧ T1.2.2.2.2.1 p m = T2.2.2.2.2.1 p m ∧ T1.2.2.2.2.2 p m = T2.2.2.2.2.2 p m) := by
  obtain ⟨s1, -, a1, b1, -, c1, v1⟩ := h1
  obtain ⟨s2, -, a2, b2, -, c2, v2⟩ := h2
  obtain ⟨e, k⟩ := srt_un s1 s2
    (fun p hp => by
      obtain ⟨q, q1, q2⟩ := a1 p hp
      obtain ⟨j, j1, j2⟩ := b2 q q1
      exact ⟨j, j1, keq_trans (keq_symm q2) j2⟩)
    (fun p hp => by
      obtain ⟨q, q1, q2⟩ := a2 p hp
      obtain ⟨j, j1, j2⟩ := b1 q q1
      exact ⟨j, j1, keq_trans (keq_symm q2) j2⟩)
  refine ⟨e, k, fun p hp => ?_, fun p m hp hm => ?_⟩
  · have x := c1 p hp
    rw [agg_congr (k p hp), c2 p (by omega)] at x
    exact (Option.some.inj x).symm
  · obtain ⟨x, y, z⟩ := v1 p m hp hm
    obtain ⟨x2, y2, z2⟩ := v2 p m (by omega) hm
    rw [agg_congr (k p hp), x2] at x
    rw [agg_congr (k p hp), y2] at y
    rw [agg_congr (k p hp), z2] at z
    exact ⟨(Option.some.inj x).symm, (Option.some.inj y).symm, (Option.some.inj z).symm⟩
theorem rollR_rep {σ : Nat → Nat} {w ms i : Nat} {T T1 T2 : TB} {ks : Nat → Int32} {ct sm le gr : Nat → Int64} (h1 : rollR w ms i T T1) (h2 : rollR w ms i T T2) (h : repT σ w ms T2 ks ct sm le gr) : repT σ w ms T1 ks ct sm le gr := by
  obtain ⟨e, k, c, v⟩ := rollR_un h1 h2
  obtain ⟨r1, r2, r3, r4, r5⟩ := h
  refine ⟨⟨r1.1, r1.2.1, r1.2.2.1, by rw [e]; exact r1.2.2.2⟩, fun p hp => keq_trans (r2 p (by omega)) (keq_symm (k p hp)), fun p hp => (r3 p (by omega)).trans (c p hp).symm, fun p m hp hm => ?_, h1.1⟩
  obtain ⟨x, y, z⟩ := r4 p m (by omega) hm
  obtain ⟨x2, y2, z2⟩ := v p m hp hm
  exact ⟨x.trans x2.symm, y.trans y2.symm, z.trans z2.symm⟩
end
section
/-! what a change of the arrays makes of the table -/
def insX (ps k p0 : Nat) : Nat → Nat := fun q => if q < ps then q else if q = ps then p0 else if q ≤ k then q - 1 else if q = p0 then k else q
theorem insX_inj {ps k p0 : Nat} (h1 : ps ≤ k) (h2 : k ≤ p0) {a b : Nat} (h : insX ps k p0 a = insX ps k p0 b) : a = b := by
  unfold insX at h
  repeat' split at h
  all_goals omega
theorem insX_lt {ps k p0 : Nat} (h1 : ps ≤ k) (h2 : k ≤ p0) (h3 : p0 < 1000) {a : Nat} (ha : a < 1000) : insX ps k p0 a < 1000 := by
  unfold insX
  repeat' split
  all_goals omega
def insS (σ : Nat → Nat) (ps k p0 : Nat) : Nat → Nat := fun q => σ (insX ps k p0 q)
theorem insS_lt {σ : Nat → Nat} {ps k p0 q : Nat} (h : q < ps) : insS σ ps k p0 q = σ q := by simp [insS, insX, h]
theorem insS_eq {σ : Nat → Nat} {ps k p0 : Nat} : insS σ ps k p0 ps = σ p0 := by simp [insS, insX]
theorem insS_mid {σ : Nat → Nat} {ps k p0 q : Nat} (h : ps < q) (h2 : q ≤ k) : insS σ ps k p0 q = σ (q - 1) := by
  have a : ¬ q < ps := by omega
  have b : ¬ q = ps := by omega
  simp [insS, insX, a, b, h2]
theorem insS_hi {σ : Nat → Nat} {ps k p0 q : Nat} (h1 : ps ≤ k) (h2 : k ≤ p0) (h : p0 < q) : insS σ ps k p0 q = σ q := by
  have a : ¬ q < ps := by omega
  have b : ¬ q = ps := by omega
  have d : ¬ q ≤ k := by omega
  have f : ¬ q = p0 := by omega
  simp [insS, insX, a, b, d, f]
theorem perm_ins {σ : Nat → Nat} {sl sl' : Nat → Int32} {ps k p0 : Nat} (h : perm σ sl) (h1 : ps ≤ k) (h2 : k ≤ p0) (h3 : p0 < 1000)
    (e : ∀ q, q < 1000 → sl' q = if q < ps then sl q else if q = ps then sl p0 else if q ≤ k then sl (q - 1) else if q = p0 then sl k else sl q) : perm (insS σ ps k p0) sl' := by
  obtain ⟨a, b, d⟩ := h
  refine ⟨fun q hq => ?_, fun q hq => b _ (insX_lt h1 h2 h3 hq), fun p q hp hq z => insX_inj h1 h2 (d _ _ (insX_lt h1 h2 h3 hp) (insX_lt h1 h2 h3 hq) z)⟩
  rw [e q hq]
  unfold insS insX
  repeat' split
  all_goals exact a _ (by omega)
/-- a row more -/
theorem rep_new {σ σ' : Nat → Nat} {w ms ps : Nat} {T : TB} {ks ks' : Nat → Int32} {ct sm le gr ct' sm' le' gr' : Nat → Int64} {fk : Nat → Int32} {fa : Nat → Int64} {nn : Int64} {x : Nat} (h : repT σ w ms T ks ct sm le gr) (hn : T.1 < 1000) (hl : isLow w T.1 T.2.1 fk ps) (hne : ps < T.1 → ¬ keq w (T.2.1 ps) fk)
    (hs : ∀ p, p < T.1 + 1 → σ' p = insF ps x σ p) (hx : ∀ p, p < T.1 → σ p ≠ x)
    (hk : ∀ p i, p < T.1 → i < w → ks' (8 * σ p + i) = ks (8 * σ p + i)) (hkx : ∀ i, i < w → ks' (8 * x + i) = fk i)
    (hc : ∀ p, p < T.1 → ct' (σ p) = ct (σ p)) (hcx : ct' x = nn)
    (hv : ∀ p m, p < T.1 → m < ms → sm' (8 * σ p + m) = sm (8 * σ p + m) ∧ le' (8 * σ p + m) = le (8 * σ p + m) ∧ gr' (8 * σ p + m) = gr (8 * σ p + m))
    (hvx : ∀ m, m < ms → sm' (8 * x + m) = fa m * nn ∧ le' (8 * x + m) = fa m ∧ gr' (8 * x + m) = fa m) : repT σ' w ms (newT ps fk fa nn T) ks' ct' sm' le' gr' := by
  obtain ⟨r1, r2, r3, r4, r5⟩ := h
  have hle := hl.1
  have cs : ∀ p, p < T.1 + 1 → (p = ps ∧ σ' p = x ∧ ∀ (α : Type) (v : α) (f : Nat → α), insF ps v f p = v) ∨ ∃ p', p' < T.1 ∧ σ' p = σ p' ∧ ∀ (α : Type) (v : α) (f : Nat → α), insF ps v f p = f p' := by
    intro p hp
    rcases Nat.lt_trichotomy p ps with q | q | q
    · exact Or.inr ⟨p, by omega, (hs p hp).trans (insF_lt q), fun α v f => insF_lt q⟩
    · subst q; exact Or.inl ⟨rfl, (hs p hp).trans insF_eq, fun α v f => insF_eq⟩
    · exact Or.inr ⟨p - 1, by omega, (hs p hp).trans (insF_gt q), fun α v f => insF_gt q⟩
  refine ⟨⟨r1.1, r1.2.1, r1.2.2.1, by show T.1 + 1 ≤ 1000; omega⟩, fun p hp => ?_, fun p hp => ?_, fun p m hp hm => ?_, srt_ins r5 hl hne⟩
  · rcases cs p hp with ⟨-, e, z⟩ | ⟨p', q, e, z⟩
    · intro i hi
      show ks' (8 * σ' p + i) = insF ps fk T.2.1 p i
      rw [e, z]; exact hkx i hi
    · intro i hi
      show ks' (8 * σ' p + i) = insF ps fk T.2.1 p i
      rw [e, z, hk p' i q hi]; exact r2 p' q i hi
  · rcases cs p hp with ⟨-, e, z⟩ | ⟨p', q, e, z⟩
    · show ct' (σ' p) = insF ps nn T.2.2.1 p
      rw [e, z]; exact hcx
    · show ct' (σ' p) = insF ps nn T.2.2.1 p
      rw [e, z, hc p' q]; exact r3 p' q
  · rcases cs p hp with ⟨-, e, z⟩ | ⟨p', q, e, z⟩
    · show sm' (8 * σ' p + m) = insF ps (fun m => fa m * nn) T.2.2.2.1 p m ∧ le' (8 * σ' p + m) = insF ps fa T.2.2.2.2.1 p m ∧ gr' (8 * σ' p + m) = insF ps fa T.2.2.2.2.2 p m
      rw [e, z, z, z]; exact hvx m hm
    · show sm' (8 * σ' p + m) = insF ps (fun m => fa m * nn) T.2.2.2.1 p m ∧ le' (8 * σ' p + m) = insF ps fa T.2.2.2.2.1 p m ∧ gr' (8 * σ' p + m) = insF ps fa T.2.2.2.2.2 p m
      rw [e, z, z, z]
      obtain ⟨a1, a2, a3⟩ := hv p' m q hm
      obtain ⟨b1, b2, b3⟩ := r4 p' m q hm
      exact ⟨a1.trans b1, a2.trans b2, a3.trans b3⟩
/-- a fact joins a row -/
theorem rep_hit {σ : Nat → Nat} {w ms ps : Nat} {T : TB} {ks : Nat → Int32} {ct sm le gr ct' sm' le' gr' : Nat → Int64} {fa : Nat → Int64} {nn : Int64} (h : repT σ w ms T ks ct sm le gr) (hp : ps < T.1)
    (hc : ∀ p, p < T.1 → p ≠ ps → ct' (σ p) = ct (σ p)) (hcx : ct' (σ ps) = ct (σ ps) + nn)
    (hv : ∀ p m, p < T.1 → p ≠ ps → m < ms → sm' (8 * σ p + m) = sm (8 * σ p + m) ∧ le' (8 * σ p + m) = le (8 * σ p + m) ∧ gr' (8 * σ p + m) = gr (8 * σ p + m))
    (hvx : ∀ m, m < ms → sm' (8 * σ ps + m) = sm (8 * σ ps + m) + fa m * nn ∧ le' (8 * σ ps + m) = (if fa m < le (8 * σ ps + m) then fa m else le (8 * σ ps + m)) ∧ gr' (8 * σ ps + m) = (if gr (8 * σ ps + m) < fa m then fa m else gr (8 * σ ps + m))) : repT σ w ms (hitT ps fa nn T) ks ct' sm' le' gr' := by
  obtain ⟨r1, r2, r3, r4, r5⟩ := h
  refine ⟨r1, r2, fun p hp' => ?_, fun p m hp' hm => ?_, r5⟩
  · show ct' (σ p) = va_up T.2.2.1 ps (T.2.2.1 ps + nn) p
    by_cases q : p = ps
    · subst q; rw [va_up_self, hcx, r3 p hp]
    · rw [va_up_ne _ _ q, hc p hp' q]; exact r3 p hp'
  · show sm' (8 * σ p + m) = va_up T.2.2.2.1 ps _ p m ∧ le' (8 * σ p + m) = va_up T.2.2.2.2.1 ps _ p m ∧ gr' (8 * σ p + m) = va_up T.2.2.2.2.2 ps _ p m
    obtain ⟨b1, b2, b3⟩ := r4 p m hp' hm
    by_cases q : p = ps
    · subst q
      obtain ⟨a1, a2, a3⟩ := hvx m hm
      rw [va_up_self, va_up_self, va_up_self, a1, a2, a3, b1, b2, b3]
      exact ⟨rfl, rfl, rfl⟩
    · obtain ⟨a1, a2, a3⟩ := hv p m hp' q hm
      rw [va_up_ne _ _ q, va_up_ne _ _ q, va_up_ne _ _ q]
      exact ⟨a1.trans b1, a2.trans b2, a3.trans b3⟩
end
section
/-! THE STATE: the cells of the class and of the model -/
def FX : u_T := fun k => match k with
  | 0 => ("GroupRows", "width", "I", false)
  | 1 => ("GroupRows", "measures", "I", false)
  | 2 => ("GroupRows", "rowCount", "I", false)
  | 3 => ("GroupRows", "factKey", "[I", true)
  | 4 => ("GroupRows", "factAmounts", "[J", true)
  | 5 => ("GroupRows", "slots", "[I", true)
  | 6 => ("GroupRows", "keys", "[I", true)
  | 7 => ("GroupRows", "counts", "[J", true)
  | 8 => ("GroupRows", "sums", "[J", true)
  | 9 => ("GroupRows", "leasts", "[J", true)
  | _ => ("GroupRows", "greatests", "[J", true)
def tX : Nat → FieldType := fun k => match k with
  | 0 => .int
  | 1 => .int
  | 2 => .int
  | 3 => .array .int
  | 4 => .array .long
  | 5 => .array .int
  | 6 => .array .int
  | 7 => .array .long
  | 8 => .array .long
  | 9 => .array .long
  | _ => .array .long
theorem nX : ∀ a, a < 11 → ∀ b, b < 11 → a ≠ b → (FX a).2.1 ≠ (FX b).2.1 := by decide +kernel
theorem tXok : ∀ k, k < 11 → parseFieldDescriptor (FX k).2.2.1 = some (tX k) := by decide +kernel
theorem inX : ∀ w ∈ u_ws "GroupRows" FX 11, w ∈ wAll := by decide +kernel
def FM : u_T := fun k => match k with
  | 0 => ("GroupRowsModel", "code", "I", false)
  | 1 => ("GroupRowsModel", "width", "I", false)
  | 2 => ("GroupRowsModel", "measures", "I", false)
  | 3 => ("GroupRowsModel", "rows", "I", false)
  | 4 => ("GroupRowsModel", "keys", "[I", true)
  | 5 => ("GroupRowsModel", "counts", "[J", true)
  | 6 => ("GroupRowsModel", "sums", "[J", true)
  | 7 => ("GroupRowsModel", "leasts", "[J", true)
  | 8 => ("GroupRowsModel", "greatests", "[J", true)
  | 9 => ("GroupRowsModel", "key", "[I", true)
  | _ => ("GroupRowsModel", "amount", "[J", true)
def tM : Nat → FieldType := fun k => match k with
  | 0 => .int
  | 1 => .int
  | 2 => .int
  | 3 => .int
  | 4 => .array .int
  | 5 => .array .long
  | 6 => .array .long
  | 7 => .array .long
  | 8 => .array .long
  | 9 => .array .int
  | _ => .array .long
theorem nM : ∀ a, a < 11 → ∀ b, b < 11 → a ≠ b → (FM a).2.1 ≠ (FM b).2.1 := by decide +kernel
theorem tMok : ∀ k, k < 11 → parseFieldDescriptor (FM k).2.2.1 = some (tM k) := by decide +kernel
theorem inM : ∀ w ∈ u_ws "GroupRowsModel" FM 11, w ∈ wAll := by decide +kernel
abbrev classes : List vw_C := [("GroupRows", FX, 11), ("GroupRowsModel", FM, 11)]
abbrev wX (a : Nat → Nat) (k : Nat → ClassId) (w ms n : Int32) (fk : Nat → Int32) (fa : Nat → Int64) (sl ks : Nat → Int32) (ct sm le gr : Nat → Int64) : va_W := [(a 0, .inr (0, [.int w, .int ms, .int n, .ref (a 1), .ref (a 2), .ref (a 3), .ref (a 4), .ref (a 5), .ref (a 6), .ref (a 7), .ref (a 8)])), (a 1, .inl (k 1, 8, .inl fk)), (a 2, .inl (k 2, 8, .inr (.inl fa))), (a 3, .inl (k 3, 1000, .inl sl)), (a 4, .inl (k 4, 8000, .inl ks)), (a 5, .inl (k 5, 1000, .inr (.inl ct))), (a 6, .inl (k 6, 8000, .inr (.inl sm))), (a 7, .inl (k 7, 8000, .inr (.inl le))), (a 8, .inl (k 8, 8000, .inr (.inl gr)))]
abbrev kX (k : Nat → ClassId) : List (ClassId × FieldType) := [(k 1, .int), (k 2, .long), (k 3, .int), (k 4, .int), (k 5, .long), (k 6, .long), (k 7, .long), (k 8, .long)]
abbrev wM (b : Nat → Nat) (d : Nat → ClassId) (cd w2 ms2 n2 : Int32) (ks2 : Nat → Int32) (ct2 sm2 le2 gr2 : Nat → Int64) (fk2 : Nat → Int32) (fa2 : Nat → Int64) : va_W := [(b 0, .inr (1, [.int cd, .int w2, .int ms2, .int n2, .ref (b 1), .ref (b 2), .ref (b 3), .ref (b 4), .ref (b 5), .ref (b 6), .ref (b 7)])), (b 1, .inl (d 1, 8000, .inl ks2)), (b 2, .inl (d 2, 1000, .inr (.inl ct2))), (b 3, .inl (d 3, 8000, .inr (.inl sm2))), (b 4, .inl (d 4, 8000, .inr (.inl le2))), (b 5, .inl (d 5, 8000, .inr (.inl gr2))), (b 6, .inl (d 6, 8, .inl fk2)), (b 7, .inl (d 7, 8, .inr (.inl fa2)))]
abbrev kM (d : Nat → ClassId) : List (ClassId × FieldType) := [(d 1, .int), (d 2, .long), (d 3, .long), (d 4, .long), (d 5, .long), (d 6, .int), (d 7, .long)]
end
section
theorem gb_T {av : List Value} : FrameBlind (va_Pc av (fun _ => True)) := fun a U g mk q => ⟨q.1, trivial⟩
set_option maxHeartbeats 4000000 in
set_option maxRecDepth 100000 in
/-- Integer.compare -/
theorem c_JIcompare (l : Launch) (x y : Int32) : Met l yJI_compare (Cond.code yJI_compare bJI_compare 2 (some .int) :: wAll) rm0 (va_Pc [.int x, .int y] (fun _ => True)) (QcV (.int (if x < y then (-1) else if x = y then 0 else 1))) 0 0 (fun _ => False) := by
  refine va_MetF (cc := bJI_compare) (maxL := 2) (ret := (some .int)) (by decide) rfl ?_
  intro p e s m args below meth c s₁ B hml hv
  obtain ⟨rfl, -⟩ := hv
  have hx := B.exec
  have hb := B.bytes
  have hr := B.returns
  have hta : ∀ w ∈ wAll, w.before ([.int x, .int y] : List Value).toArray s = true := fun w h => atoms_spec (ws := (Cond.code yJI_compare bJI_compare 2 (some .int) :: wAll)) B.pre w (List.mem_cons_of_mem _ h)
  have hown : s.vm.findClass "java/lang/Integer" = some m.cls := findClass_of_methodNamed B.named
  have hlocks := B.notSynchronized
  have hl := lv_entry ([.int x, .int y]) (n := 2) (Nat.le_of_ble_eq_true rfl)
  rw [lg_entry_eq]
  generalize (lg_sl ([.int x, .int y]) ++ List.replicate (2 - (lg_sl ([.int x, .int y])).length) Slot.unset).toArray = ls at hl ⊢
  have hl : lv_has ls 2 [(0, .int x), (1, .int y)] := hl
  refine lv_iload_n hx hb dJI_compare_0 rfl (lv_at hl 0 rfl) ?_
  refine lv_iload_n hx hb dJI_compare_1 rfl (lv_at hl 1 rfl) ?_
  refine lv_icmp_ge (tgt := 9) hx hb dJI_compare_2 (by decide) (fun h1 => ?_) (fun h1 => ?_)
  · skip
    refine lv_iload_n hx hb dJI_compare_9 rfl (lv_at hl 0 rfl) ?_
    refine lv_iload_n hx hb dJI_compare_10 rfl (lv_at hl 1 rfl) ?_
    refine lv_icmp_ne (tgt := 18) hx hb dJI_compare_11 (by decide) (fun h2 => ?_) (fun h2 => ?_)
    · skip
      refine lv_iconst (v := 1) hx hb dJI_compare_18 (by decide) ?_
      exact W.iret hx hb hr (fun t9 ht9 hW9 => ⟨congrArg (fun z => Outcome.returned (some (Value.int z))) (by rw [if_neg (Int32.not_lt.mpr h1), if_neg h2]), ht9⟩) (fun _ h => by cases h) dJI_compare_19
    · skip
      refine lv_iconst (v := 0) hx hb dJI_compare_14 (by decide) ?_
      refine lv_goto (tgt := 19) hx hb dJI_compare_15 (by decide) ?_
      exact W.iret hx hb hr (fun t9 ht9 hW9 => ⟨congrArg (fun z => Outcome.returned (some (Value.int z))) (by rw [if_neg (Int32.not_lt.mpr h1), if_pos h2]), ht9⟩) (fun _ h => by cases h) dJI_compare_19
  · skip
    refine lv_iconst (v := (-1)) hx hb dJI_compare_5 (by decide) ?_
    refine lv_goto (tgt := 19) hx hb dJI_compare_6 (by decide) ?_
    exact W.iret hx hb hr (fun t9 ht9 hW9 => ⟨congrArg (fun z => Outcome.returned (some (Value.int z))) (by rw [if_pos (Int32.not_le.mp h1)]), ht9⟩) (fun _ h => by cases h) dJI_compare_19
set_option maxHeartbeats 4000000 in
set_option maxRecDepth 100000 in
theorem c_isPart (l : Launch) (dC : Nat → ClassId) (dI : Nat → Nat → Nat) (a : Nat → Nat) (k : Nat → ClassId) (w ms n : Int32) (fk : Nat → Int32) (fa : Nat → Int64) (sl ks : Nat → Int32) (ct sm le gr : Nat → Int64) (i : Int32) : Met l yX_isPart (Cond.code yX_isPart bX_isPart 2 (some .boolean) :: wAll) rm0 (va_Pc [.ref (a 0), .int i] (fun U => va_P (dC, dI) classes (wX a k w ms n fk fa sl ks ct sm le gr) U.heap ∧ va_K (dC, dI) classes (kX k) U)) (QcV (.int (if 0 ≤ i ∧ i < w then 1 else 0))) 0 0 (fun _ => False) := by
  refine Met.ofW (cc := bX_isPart) (maxL := 2) (ret := (some .boolean)) (by decide) rfl ?_
  intro p e s m args below meth c s₁ B hml hv
  obtain ⟨rfl, hP, hK⟩ := hv
  have hx := B.exec
  have hb := B.bytes
  have hr := B.returns
  have hta : ∀ w ∈ wAll, w.before ([.ref (a 0), .int i] : List Value).toArray s = true := fun w h => atoms_spec (ws := (Cond.code yX_isPart bX_isPart 2 (some .boolean) :: wAll)) B.pre w (List.mem_cons_of_mem _ h)
  have hown : s.vm.findClass "GroupRows" = some m.cls := findClass_of_methodNamed B.named
  have hlocks := B.notSynchronized
  have hP : va_P (dC, dI) classes (wX a k w ms n fk fa sl ks ct sm le gr) s.heap := hP
  have hl := lv_entry ([.ref (a 0), .int i]) (n := 2) (Nat.le_of_ble_eq_true rfl)
  rw [lg_entry_eq]
  generalize (lg_sl ([.ref (a 0), .int i]) ++ List.replicate (2 - (lg_sl ([.ref (a 0), .int i])).length) Slot.unset).toArray = ls at hl ⊢
  have hl : lv_has ls 2 [(0, .ref (a 0)), (1, .int i)] := hl
  refine lv_iload_n hx hb dX_isPart_0 rfl (lv_at hl 1 rfl) ?_
  refine lv_if_lt (tgt := 16) hx hb dX_isPart_1 (by decide) (fun h1 => ?_) (fun h1 => ?_)
  · skip
    refine lv_iconst (v := 0) hx hb dX_isPart_16 (by decide) ?_
    exact W.zret hx hb hr (rfl) (fun t9 ht9 hW9 => ⟨congrArg (fun z => Outcome.returned (some (Value.int z))) ((if_neg (fun q => absurd q.1 (Int32.not_le.mpr h1))).symm), ht9⟩) (fun _ h => by cases h) dX_isPart_17
  · skip
    refine lv_iload_n hx hb dX_isPart_4 rfl (lv_at hl 1 rfl) ?_
    refine lv_aload_n hx hb dX_isPart_5 rfl (lv_at hl 0 rfl) ?_
    refine va_get (D := (dC, dI)) (ci := 0) (v := .int w) (C := "GroupRows") (T := FX) (N := 11) hx hb hta inX hown hK hP 0 rfl rfl 0 (by decide) (hta _ w19) (fun _ h9 => h9) rfl dX_isPart_6 ?_
    refine lv_icmp_ge (tgt := 16) hx hb dX_isPart_9 (by decide) (fun h2 => ?_) (fun h2 => ?_)
    · skip
      refine lv_iconst (v := 0) hx hb dX_isPart_16 (by decide) ?_
      exact W.zret hx hb hr (rfl) (fun t9 ht9 hW9 => ⟨congrArg (fun z => Outcome.returned (some (Value.int z))) ((if_neg (fun q => absurd q.2 (Int32.not_lt.mpr h2))).symm), ht9⟩) (fun _ h => by cases h) dX_isPart_17
    · skip
      refine lv_iconst (v := 1) hx hb dX_isPart_12 (by decide) ?_
      refine lv_goto (tgt := 17) hx hb dX_isPart_13 (by decide) ?_
      exact W.zret hx hb hr (rfl) (fun t9 ht9 hW9 => ⟨congrArg (fun z => Outcome.returned (some (Value.int z))) ((if_pos ⟨Int32.not_lt.mp h1, Int32.not_le.mp h2⟩).symm), ht9⟩) (fun _ h => by cases h) dX_isPart_17
set_option maxHeartbeats 4000000 in
set_option maxRecDepth 100000 in
theorem c_isMeasure (l : Launch) (dC : Nat → ClassId) (dI : Nat → Nat → Nat) (a : Nat → Nat) (k : Nat → ClassId) (w ms n : Int32) (fk : Nat → Int32) (fa : Nat → Int64) (sl ks : Nat → Int32) (ct sm le gr : Nat → Int64) (i : Int32) : Met l yX_isMeasure (Cond.code yX_isMeasure bX_isMeasure 2 (some .boolean) :: wAll) rm0 (va_Pc [.ref (a 0), .int i] (fun U => va_P (dC, dI) classes (wX a k w ms n fk fa sl ks ct sm le gr) U.heap ∧ va_K (dC, dI) classes (kX k) U)) (QcV (.int (if 0 ≤ i ∧ i < ms then 1 else 0))) 0 0 (fun _ => False) := by
  refine Met.ofW (cc := bX_isMeasure) (maxL := 2) (ret := (some .boolean)) (by decide) rfl ?_
  intro p e s m args below meth c s₁ B hml hv
  obtain ⟨rfl, hP, hK⟩ := hv
  have hx := B.exec
  have hb := B.bytes
  have hr := B.returns
  have hta : ∀ w ∈ wAll, w.before ([.ref (a 0), .int i] : List Value).toArray s = true := fun w h => atoms_spec (ws := (Cond.code yX_isMeasure bX_isMeasure 2 (some .boolean) :: wAll)) B.pre w (List.mem_cons_of_mem _ h)
  have hown : s.vm.findClass "GroupRows" = some m.cls := findClass_of_methodNamed B.named
  have hlocks := B.notSynchronized
  have hP : va_P (dC, dI) classes (wX a k w ms n fk fa sl ks ct sm le gr) s.heap := hP
  have hl := lv_entry ([.ref (a 0), .int i]) (n := 2) (Nat.le_of_ble_eq_true rfl)
  rw [lg_entry_eq]
  generalize (lg_sl ([.ref (a 0), .int i]) ++ List.replicate (2 - (lg_sl ([.ref (a 0), .int i])).length) Slot.unset).toArray = ls at hl ⊢
  have hl : lv_has ls 2 [(0, .ref (a 0)), (1, .int i)] := hl
  refine lv_iload_n hx hb dX_isMeasure_0 rfl (lv_at hl 1 rfl) ?_
  refine lv_if_lt (tgt := 16) hx hb dX_isMeasure_1 (by decide) (fun h1 => ?_) (fun h1 => ?_)
  · skip
    refine lv_iconst (v := 0) hx hb dX_isMeasure_16 (by decide) ?_
    exact W.zret hx hb hr (rfl) (fun t9 ht9 hW9 => ⟨congrArg (fun z => Outcome.returned (some (Value.int z))) ((if_neg (fun q => absurd q.1 (Int32.not_le.mpr h1))).symm), ht9⟩) (fun _ h => by cases h) dX_isMeasure_17
  · skip
    refine lv_iload_n hx hb dX_isMeasure_4 rfl (lv_at hl 1 rfl) ?_
    refine lv_aload_n hx hb dX_isMeasure_5 rfl (lv_at hl 0 rfl) ?_
    refine va_get (D := (dC, dI)) (ci := 0) (v := .int ms) (C := "GroupRows") (T := FX) (N := 11) hx hb hta inX hown hK hP 0 rfl rfl 1 (by decide) (hta _ w20) (fun _ h9 => h9) rfl dX_isMeasure_6 ?_
    refine lv_icmp_ge (tgt := 16) hx hb dX_isMeasure_9 (by decide) (fun h2 => ?_) (fun h2 => ?_)
    · skip
      refine lv_iconst (v := 0) hx hb dX_isMeasure_16 (by decide) ?_
      exact W.zret hx hb hr (rfl) (fun t9 ht9 hW9 => ⟨congrArg (fun z => Outcome.returned (some (Value.int z))) ((if_neg (fun q => absurd q.2 (Int32.not_lt.mpr h2))).symm), ht9⟩) (fun _ h => by cases h) dX_isMeasure_17
    · skip
      refine lv_iconst (v := 1) hx hb dX_isMeasure_12 (by decide) ?_
      refine lv_goto (tgt := 17) hx hb dX_isMeasure_13 (by decide) ?_
      exact W.zret hx hb hr (rfl) (fun t9 ht9 hW9 => ⟨congrArg (fun z => Outcome.returned (some (Value.int z))) ((if_pos ⟨Int32.not_lt.mp h1, Int32.not_le.mp h2⟩).symm), ht9⟩) (fun _ h => by cases h) dX_isMeasure_17
set_option maxHeartbeats 4000000 in
set_option maxRecDepth 100000 in
theorem c_isPlace (l : Launch) (dC : Nat → ClassId) (dI : Nat → Nat → Nat) (a : Nat → Nat) (k : Nat → ClassId) (w ms n : Int32) (fk : Nat → Int32) (fa : Nat → Int64) (sl ks : Nat → Int32) (ct sm le gr : Nat → Int64) (i : Int32) : Met l yX_isPlace (Cond.code yX_isPlace bX_isPlace 2 (some .boolean) :: wAll) rm0 (va_Pc [.ref (a 0), .int i] (fun U => va_P (dC, dI) classes (wX a k w ms n fk fa sl ks ct sm le gr) U.heap ∧ va_K (dC, dI) classes (kX k) U)) (QcV (.int (if 0 ≤ i ∧ i < n then 1 else 0))) 0 0 (fun _ => False) := by
  refine Met.ofW (cc := bX_isPlace) (maxL := 2) (ret := (some .boolean)) (by decide) rfl ?_
  intro p e s m args below meth c s₁ B hml hv
  obtain ⟨rfl, hP, hK⟩ := hv
  have hx := B.exec
  have hb := B.bytes
  have hr := B.returns
  have hta : ∀ w ∈ wAll, w.before ([.ref (a 0), .int i] : List Value).toArray s = true := fun w h => atoms_spec (ws := (Cond.code yX_isPlace bX_isPlace 2 (some .boolean) :: wAll)) B.pre w (List.mem_cons_of_mem _ h)
  have hown : s.vm.findClass "GroupRows" = some m.cls := findClass_of_methodNamed B.named
  have hlocks := B.notSynchronized
  have hP : va_P (dC, dI) classes (wX a k w ms n fk fa sl ks ct sm le gr) s.heap := hP
  have hl := lv_entry ([.ref (a 0), .int i]) (n := 2) (Nat.le_of_ble_eq_true rfl)
  rw [lg_entry_eq]
  generalize (lg_sl ([.ref (a 0), .int i]) ++ List.replicate (2 - (lg_sl ([.ref (a 0), .int i])).length) Slot.unset).toArray = ls at hl ⊢
  have hl : lv_has ls 2 [(0, .ref (a 0)), (1, .int i)] := hl
  refine lv_iload_n hx hb dX_isPlace_0 rfl (lv_at hl 1 rfl) ?_
  refine lv_if_lt (tgt := 16) hx hb dX_isPlace_1 (by decide) (fun h1 => ?_) (fun h1 => ?_)
  · skip
    refine lv_iconst (v := 0) hx hb dX_isPlace_16 (by decide) ?_
    exact W.zret hx hb hr (rfl) (fun t9 ht9 hW9 => ⟨congrArg (fun z => Outcome.returned (some (Value.int z))) ((if_neg (fun q => absurd q.1 (Int32.not_le.mpr h1))).symm), ht9⟩) (fun _ h => by cases h) dX_isPlace_17
  · skip
    refine lv_iload_n hx hb dX_isPlace_4 rfl (lv_at hl 1 rfl) ?_
    refine lv_aload_n hx hb dX_isPlace_5 rfl (lv_at hl 0 rfl) ?_
    refine va_get (D := (dC, dI)) (ci := 0) (v := .int n) (C := "GroupRows") (T := FX) (N := 11) hx hb hta inX hown hK hP 0 rfl rfl 2 (by decide) (hta _ w21) (fun _ h9 => h9) rfl dX_isPlace_6 ?_
    refine lv_icmp_ge (tgt := 16) hx hb dX_isPlace_9 (by decide) (fun h2 => ?_) (fun h2 => ?_)
    · skip
      refine lv_iconst (v := 0) hx hb dX_isPlace_16 (by decide) ?_
      exact W.zret hx hb hr (rfl) (fun t9 ht9 hW9 => ⟨congrArg (fun z => Outcome.returned (some (Value.int z))) ((if_neg (fun q => absurd q.2 (Int32.not_lt.mpr h2))).symm), ht9⟩) (fun _ h => by cases h) dX_isPlace_17
    · skip
      refine lv_iconst (v := 1) hx hb dX_isPlace_12 (by decide) ?_
      refine lv_goto (tgt := 17) hx hb dX_isPlace_13 (by decide) ?_
      exact W.zret hx hb hr (rfl) (fun t9 ht9 hW9 => ⟨congrArg (fun z => Outcome.returned (some (Value.int z))) ((if_pos ⟨Int32.not_lt.mp h1, Int32.not_le.mp h2⟩).symm), ht9⟩) (fun _ h => by cases h) dX_isPlace_17
set_option maxHeartbeats 4000000 in
set_option maxRecDepth 100000 in
/-- compareKey, the parts being fk -/
theorem c_compareKeyF (l : Launch) (dC : Nat → ClassId) (dI : Nat → Nat → Nat) (a : Nat → Nat) (k : Nat → ClassId) (wn : Nat) (ms n : Int32) (fk : Nat → Int32) (fa : Nat → Int64) (sl ks : Nat → Int32) (ct sm le gr : Nat → Int64) (q t : Nat) (hwn : wn ≤ 8) (hq : q < 1000) (ht : t + 8 ≤ 8) : Met l yX_compareKey (Cond.code yX_compareKey bX_compareKey 7 (some .int) :: wAll) { frames := 1, cells := 0, slots := 0, locals := 32 } (va_Pc [.ref (a 0), .int (nI q), .ref (a 1), .int (nI t)] (fun U => va_P (dC, dI) classes (wX a k (nI wn) ms n fk fa sl ks ct sm le gr) U.heap ∧ va_K (dC, dI) classes (kX k) U)) (QcV (.int (lx (fun i => ks (8 * q + i)) (fun i => fk (t + i)) wn 0))) 0 0 (fun _ => False) := by
  refine Met.ofW (cc := bX_compareKey) (maxL := 7) (ret := (some .int)) (by decide) rfl ?_
  intro p e s m args below meth c s₁ B hml hv
  obtain ⟨rfl, hP, hK⟩ := hv
  have hx := B.exec
  have hb := B.bytes
  have hr := B.returns
  have hta : ∀ w ∈ wAll, w.before ([.ref (a 0), .int (nI q), .ref (a 1), .int (nI t)] : List Value).toArray s = true := fun w h => atoms_spec (ws := (Cond.code yX_compareKey bX_compareKey 7 (some .int) :: wAll)) B.pre w (List.mem_cons_of_mem _ h)
  have hown : s.vm.findClass "GroupRows" = some m.cls := findClass_of_methodNamed B.named
  have hlocks := B.notSynchronized
  have hP : va_P (dC, dI) classes (wX a k (nI wn) ms n fk fa sl ks ct sm le gr) s.heap := hP
  have hl := lv_entry ([.ref (a 0), .int (nI q), .ref (a 1), .int (nI t)]) (n := 7) (Nat.le_of_ble_eq_true rfl)
  rw [lg_entry_eq]
  generalize (lg_sl ([.ref (a 0), .int (nI q), .ref (a 1), .int (nI t)]) ++ List.replicate (7 - (lg_sl ([.ref (a 0), .int (nI q), .ref (a 1), .int (nI t)])).length) Slot.unset).toArray = ls at hl ⊢
  have hl : lv_has ls 7 [(0, .ref (a 0)), (1, .int (nI q)), (2, .ref (a 1)), (3, .int (nI t))] := hl
  refine lv_iload_n hx hb dX_compareKey_0 rfl (lv_at hl 1 rfl) ?_
  refine lv_bipush (v := 8) hx hb dX_compareKey_1 (by decide) ?_
  refine lv_imul hx hb dX_compareKey_3 ?_
  refine gi_as (y := nI (8 * q)) (gi_mul8 _) ?_
  refine lv_istore (lv' := [(4, .int (nI (8 * q))), (0, .ref (a 0)), (1, .int (nI q)), (2, .ref (a 1)), (3, .int (nI t))]) hx hb dX_compareKey_4 hl (by decide) rfl (fun ls hl => ?_)
  refine lv_iconst (v := 0) hx hb dX_compareKey_6 (by decide) ?_
  refine gi_as (y := nI 0) (nI_0.symm) ?_
  refine lv_istore (lv' := [(5, .int (nI 0)), (4, .int (nI (8 * q))), (0, .ref (a 0)), (1, .int (nI q)), (2, .ref (a 1)), (3, .int (nI t))]) hx hb dX_compareKey_7 hl (by decide) rfl (fun ls hl => ?_)
  have loop : ∀ (kk i : Nat), i + kk = wn → lx (fun i => ks (8 * q + i)) (fun i => fk (t + i)) wn 0 = lx (fun i => ks (8 * q + i)) (fun i => fk (t + i)) kk i → ∀ (ls : Array Slot), lv_has ls 7 [(5, .int (nI i)), (4, .int (nI (8 * q))), (0, .ref (a 0)), (1, .int (nI q)), (2, .ref (a 1)), (3, .int (nI t))] → W p l e (headSpec (Cond.code yX_compareKey bX_compareKey 7 (some .int) :: wAll) { frames := 1, cells := 0, slots := 0, locals := 32 }).room s m ([.ref (a 0), .int (nI q), .ref (a 1), .int (nI t)] : List Value).toArray below meth c s.heap [] 0 0 (MQ below (QcV (.int (lx (fun i => ks (8 * q + i)) (fun i => fk (t + i)) wn 0))) ([.ref (a 0), .int (nI q), .ref (a 1), .int (nI t)] : List Value).toArray s 0 0 (fun _ => False)) (F0 m 9 ls []) := by
    intro kk
    induction kk with
    | zero =>
      intro i hi hlx ls hl
      refine lv_iload hx hb dX_compareKey_9 (lv_at hl 0 rfl) ?_
      refine lv_aload_n hx hb dX_compareKey_11 rfl (lv_at hl 2 rfl) ?_
      refine va_get (D := (dC, dI)) (ci := 0) (v := .int (nI wn)) (C := "GroupRows") (T := FX) (N := 11) hx hb hta inX hown hK hP 0 rfl rfl 0 (by decide) (hta _ w19) (fun _ h9 => h9) rfl dX_compareKey_12 ?_
      refine lv_icmp_ge (tgt := 53) hx hb dX_compareKey_15 (by decide) (fun h1 => ?_) (fun h1 => ?_)
      · skip
        refine lv_iconst (v := 0) hx hb dX_compareKey_53 (by decide) ?_
        exact W.iret hx hb hr (fun t9 ht9 hW9 => ⟨congrArg (fun z => Outcome.returned (some (Value.int z))) (hlx.symm), ht9⟩) (fun _ h => by cases h) dX_compareKey_54
      · skip
        exact absurd (nI_le (by omega) (by omega)) h1
    | succ kk ih =>
      intro i hi hlx ls hl
      refine lv_iload hx hb dX_compareKey_9 (lv_at hl 0 rfl) ?_
      refine lv_aload_n hx hb dX_compareKey_11 rfl (lv_at hl 2 rfl) ?_
      refine va_get (D := (dC, dI)) (ci := 0) (v := .int (nI wn)) (C := "GroupRows") (T := FX) (N := 11) hx hb hta inX hown hK hP 0 rfl rfl 0 (by decide) (hta _ w19) (fun _ h9 => h9) rfl dX_compareKey_12 ?_
      refine lv_icmp_ge (tgt := 53) hx hb dX_compareKey_15 (by decide) (fun h1 => ?_) (fun h1 => ?_)
      · skip
        exact absurd h1 (nI_ge (a := i) (by omega) (by omega))
      · skip
        refine lv_aload_n hx hb dX_compareKey_18 rfl (lv_at hl 2 rfl) ?_
        refine va_get (D := (dC, dI)) (ci := 0) (v := .ref (a 4)) (C := "GroupRows") (T := FX) (N := 11) hx hb hta inX hown hK hP 0 rfl rfl 6 (by decide) (hta _ w25) (fun _ h9 => h9) rfl dX_compareKey_19 ?_
        refine lv_iload hx hb dX_compareKey_22 (lv_at hl 1 rfl) ?_
        refine lv_iload hx hb dX_compareKey_24 (lv_at hl 0 rfl) ?_
        refine lv_iadd hx hb dX_compareKey_26 ?_
        refine gi_as (y := nI ((8 * q) + i)) (nI_add _ _) ?_
        refine gi_iald hx hb hK hP 4 3 rfl rfl (k := ((8 * q) + i)) (by omega) (by decide) dX_compareKey_27 ?_
        refine lv_aload_n hx hb dX_compareKey_28 rfl (lv_at hl 4 rfl) ?_
        refine lv_iload_n hx hb dX_compareKey_29 rfl (lv_at hl 5 rfl) ?_
        refine lv_iload hx hb dX_compareKey_30 (lv_at hl 0 rfl) ?_
        refine lv_iadd hx hb dX_compareKey_32 ?_
        refine gi_as (y := nI (t + i)) (nI_add _ _) ?_
        refine gi_iald hx hb hK hP 1 0 rfl rfl (k := (t + i)) (by omega) (by decide) dX_compareKey_33 ?_
        refine gi_callR (v := .int (if (ks (8 * q + i)) < (fk (t + i)) then (-1) else if (ks (8 * q + i)) = (fk (t + i)) then 0 else 1)) (W.runS (As := [.int (ks ((8 * q) + i)), .int (fk (t + i))]) (rest := []) ⟨hx, hb, hml, hown, hta⟩ (c_JIcompare l (ks (8 * q + i)) (fk (t + i))) (va_cwS 2 hta (gS w71 w72 w8 w73) rfl rfl rfl (by decide +kernel) ⟨Nat.le_of_ble_eq_true rfl, Nat.le_of_ble_eq_true rfl⟩) ⟨gb_T, fun U hU hW => ⟨rfl, trivial⟩⟩ rfl rfl hl.1 rfl (lv_room (Nat.le_of_ble_eq_true rfl)) dX_compareKey_34 ⟨Nat.le_of_ble_eq_true rfl, Nat.le_of_ble_eq_true rfl⟩) ?_
        refine lv_topi (fun ov eov => ?_)
        refine lv_istore (lv' := [(6, .int ov), (5, .int (nI i)), (4, .int (nI (8 * q))), (0, .ref (a 0)), (1, .int (nI q)), (2, .ref (a 1)), (3, .int (nI t))]) hx hb dX_compareKey_37 hl (by decide) rfl (fun ls hl => ?_)
        refine lv_iload hx hb dX_compareKey_39 (lv_at hl 0 rfl) ?_
        refine lv_if_eq (tgt := 47) hx hb dX_compareKey_41 (by decide) (fun h2 => ?_) (fun h2 => ?_)
        · skip
          have he : (ks (8 * q + i)) = (fk (t + i)) := by
            rcases i32_tri (ks (8 * q + i)) (fk (t + i)) with h | h | h
            · rw [eov, if_pos h] at h2; exact absurd h2 (by decide)
            · exact h
            · rw [eov, if_neg (i32_lt_asymm h), if_neg (fun q => by rw [q] at h; exact i32_lt_irr _ h)] at h2; exact absurd h2 (by decide)
          refine lv_iinc (v := (nI (i + 1))) (lv' := [(5, .int (nI (i + 1))), (6, .int ov), (4, .int (nI (8 * q))), (0, .ref (a 0)), (1, .int (nI q)), (2, .ref (a 1)), (3, .int (nI t))]) hx hb dX_compareKey_47 hl (k := 1) rfl (nI_1 _) (by decide) rfl (fun ls hl => ?_)
          refine lv_goto (tgt := 9) hx hb dX_compareKey_50 (by decide) ?_
          have hl := lv_sub hl [0, 2, 3, 4, 5, 6] rfl
          have hl : lv_has ls 7 [(5, .int (nI (i + 1))), (4, .int (nI (8 * q))), (0, .ref (a 0)), (1, .int (nI q)), (2, .ref (a 1)), (3, .int (nI t))] := hl
          exact ih (i + 1) (by omega) (hlx.trans (by simp only [lx, he, if_true, if_neg (i32_lt_irr _)])) ls hl
        · skip
          refine lv_iload hx hb dX_compareKey_44 (lv_at hl 0 rfl) ?_
          exact W.iret hx hb hr (fun t9 ht9 hW9 => ⟨congrArg (fun z => Outcome.returned (some (Value.int z))) (by
    rw [hlx, eov]; simp only [lx]
    by_cases q1 : (ks (8 * q + i)) < (fk (t + i))
    · rw [if_pos q1, if_pos q1]
    · by_cases q2 : (ks (8 * q + i)) = (fk (t + i))
      · exact absurd (by rw [eov, if_neg q1, if_pos q2]) h2
      · rw [if_neg q1, if_neg q1, if_neg q2, if_neg q2]), ht9⟩) (fun _ h => by cases h) dX_compareKey_46
  have hl := lv_sub hl [0, 1, 2, 3, 4, 5] rfl
  have hl : lv_has ls 7 [(5, .int (nI 0)), (4, .int (nI (8 * q))), (0, .ref (a 0)), (1, .int (nI q)), (2, .ref (a 1)), (3, .int (nI t))] := hl
  exact loop wn 0 (by omega) rfl ls hl
set_option maxHeartbeats 4000000 in
set_option maxRecDepth 100000 in
/-- compareKey, the parts being ks -/
theorem c_compareKeyK (l : Launch) (dC : Nat → ClassId) (dI : Nat → Nat → Nat) (a : Nat → Nat) (k : Nat → ClassId) (wn : Nat) (ms n : Int32) (fk : Nat → Int32) (fa : Nat → Int64) (sl ks : Nat → Int32) (ct sm le gr : Nat → Int64) (q t : Nat) (hwn : wn ≤ 8) (hq : q < 1000) (ht : t + 8 ≤ 8000) : Met l yX_compareKey (Cond.code yX_compareKey bX_compareKey 7 (some .int) :: wAll) { frames := 1, cells := 0, slots := 0, locals := 32 } (va_Pc [.ref (a 0), .int (nI q), .ref (a 4), .int (nI t)] (fun U => va_P (dC, dI) classes (wX a k (nI wn) ms n fk fa sl ks ct sm le gr) U.heap ∧ va_K (dC, dI) classes (kX k) U)) (QcV (.int (lx (fun i => ks (8 * q + i)) (fun i => ks (t + i)) wn 0))) 0 0 (fun _ => False) := by
  refine Met.ofW (cc := bX_compareKey) (maxL := 7) (ret := (some .int)) (by decide) rfl ?_
  intro p e s m args below meth c s₁ B hml hv
  obtain ⟨rfl, hP, hK⟩ := hv
  have hx := B.exec
  have hb := B.bytes
  have hr := B.returns
  have hta : ∀ w ∈ wAll, w.before ([.ref (a 0), .int (nI q), .ref (a 4), .int (nI t)] : List Value).toArray s = true := fun w h => atoms_spec (ws := (Cond.code yX_compareKey bX_compareKey 7 (some .int) :: wAll)) B.pre w (List.mem_cons_of_mem _ h)
  have hown : s.vm.findClass "GroupRows" = some m.cls := findClass_of_methodNamed B.named
  have hlocks := B.notSynchronized
  have hP : va_P (dC, dI) classes (wX a k (nI wn) ms n fk fa sl ks ct sm le gr) s.heap := hP
  have hl := lv_entry ([.ref (a 0), .int (nI q), .ref (a 4), .int (nI t)]) (n := 7) (Nat.le_of_ble_eq_true rfl)
  rw [lg_entry_eq]
  generalize (lg_sl ([.ref (a 0), .int (nI q), .ref (a 4), .int (nI t)]) ++ List.replicate (7 - (lg_sl ([.ref (a 0), .int (nI q), .ref (a 4), .int (nI t)])).length) Slot.unset).toArray = ls at hl ⊢
  have hl : lv_has ls 7 [(0, .ref (a 0)), (1, .int (nI q)), (2, .ref (a 4)), (3, .int (nI t))] := hl
  refine lv_iload_n hx hb dX_compareKey_0 rfl (lv_at hl 1 rfl) ?_
  refine lv_bipush (v := 8) hx hb dX_compareKey_1 (by decide) ?_
  refine lv_imul hx hb dX_compareKey_3 ?_
  refine gi_as (y := nI (8 * q)) (gi_mul8 _) ?_
  refine lv_istore (lv' := [(4, .int (nI (8 * q))), (0, .ref (a 0)), (1, .int (nI q)), (2, .ref (a 4)), (3, .int (nI t))]) hx hb dX_compareKey_4 hl (by decide) rfl (fun ls hl => ?_)
  refine lv_iconst (v := 0) hx hb dX_compareKey_6 (by decide) ?_
  refine gi_as (y := nI 0) (nI_0.symm) ?_
  refine lv_istore (lv' := [(5, .int (nI 0)), (4, .int (nI (8 * q))), (0, .ref (a 0)), (1, .int (nI q)), (2, .ref (a 4)), (3, .int (nI t))]) hx hb dX_compareKey_7 hl (by decide) rfl (fun ls hl => ?_)
  have loop : ∀ (kk i : Nat), i + kk = wn → lx (fun i => ks (8 * q + i)) (fun i => ks (t + i)) wn 0 = lx (fun i => ks (8 * q + i)) (fun i => ks (t + i)) kk i → ∀ (ls : Array Slot), lv_has ls 7 [(5, .int (nI i)), (4, .int (nI (8 * q))), (0, .ref (a 0)), (1, .int (nI q)), (2, .ref (a 4)), (3, .int (nI t))] → W p l e (headSpec (Cond.code yX_compareKey bX_compareKey 7 (some .int) :: wAll) { frames := 1, cells := 0, slots := 0, locals := 32 }).room s m ([.ref (a 0), .int (nI q), .ref (a 4), .int (nI t)] : List Value).toArray below meth c s.heap [] 0 0 (MQ below (QcV (.int (lx (fun i => ks (8 * q + i)) (fun i => ks (t + i)) wn 0))) ([.ref (a 0), .int (nI q), .ref (a 4), .int (nI t)] : List Value).toArray s 0 0 (fun _ => False)) (F0 m 9 ls []) := by
    intro kk
    induction kk with
    | zero =>
      intro i hi hlx ls hl
      refine lv_iload hx hb dX_compareKey_9 (lv_at hl 0 rfl) ?_
      refine lv_aload_n hx hb dX_compareKey_11 rfl (lv_at hl 2 rfl) ?_
      refine va_get (D := (dC, dI)) (ci := 0) (v := .int (nI wn)) (C := "GroupRows") (T := FX) (N := 11) hx hb hta inX hown hK hP 0 rfl rfl 0 (by decide) (hta _ w19) (fun _ h9 => h9) rfl dX_compareKey_12 ?_
      refine lv_icmp_ge (tgt := 53) hx hb dX_compareKey_15 (by decide) (fun h1 => ?_) (fun h1 => ?_)
      · skip
        refine lv_iconst (v := 0) hx hb dX_compareKey_53 (by decide) ?_
        exact W.iret hx hb hr (fun t9 ht9 hW9 => ⟨congrArg (fun z => Outcome.returned (some (Value.int z))) (hlx.symm), ht9⟩) (fun _ h => by cases h) dX_compareKey_54
      · skip
        exact absurd (nI_le (by omega) (by omega)) h1
    | succ kk ih =>
      intro i hi hlx ls hl
      refine lv_iload hx hb dX_compareKey_9 (lv_at hl 0 rfl) ?_
      refine lv_aload_n hx hb dX_compareKey_11 rfl (lv_at hl 2 rfl) ?_
      refine va_get (D := (dC, dI)) (ci := 0) (v := .int (nI wn)) (C := "GroupRows") (T := FX) (N := 11) hx hb hta inX hown hK hP 0 rfl rfl 0 (by decide) (hta _ w19) (fun _ h9 => h9) rfl dX_compareKey_12 ?_
      refine lv_icmp_ge (tgt := 53) hx hb dX_compareKey_15 (by decide) (fun h1 => ?_) (fun h1 => ?_)
      · skip
        exact absurd h1 (nI_ge (a := i) (by omega) (by omega))
      · skip
        refine lv_aload_n hx hb dX_compareKey_18 rfl (lv_at hl 2 rfl) ?_
        refine va_get (D := (dC, dI)) (ci := 0) (v := .ref (a 4)) (C := "GroupRows") (T := FX) (N := 11) hx hb hta inX hown hK hP 0 rfl rfl 6 (by decide) (hta _ w25) (fun _ h9 => h9) rfl dX_compareKey_19 ?_
        refine lv_iload hx hb dX_compareKey_22 (lv_at hl 1 rfl) ?_
        refine lv_iload hx hb dX_compareKey_24 (lv_at hl 0 rfl) ?_
        refine lv_iadd hx hb dX_compareKey_26 ?_
        refine gi_as (y := nI ((8 * q) + i)) (nI_add _ _) ?_
        refine gi_iald hx hb hK hP 4 3 rfl rfl (k := ((8 * q) + i)) (by omega) (by decide) dX_compareKey_27 ?_
        refine lv_aload_n hx hb dX_compareKey_28 rfl (lv_at hl 4 rfl) ?_
        refine lv_iload_n hx hb dX_compareKey_29 rfl (lv_at hl 5 rfl) ?_
        refine lv_iload hx hb dX_compareKey_30 (lv_at hl 0 rfl) ?_
        refine lv_iadd hx hb dX_compareKey_32 ?_
        refine gi_as (y := nI (t + i)) (nI_add _ _) ?_
        refine gi_iald hx hb hK hP 4 3 rfl rfl (k := (t + i)) (by omega) (by decide) dX_compareKey_33 ?_
        refine gi_callR (v := .int (if (ks (8 * q + i)) < (ks (t + i)) then (-1) else if (ks (8 * q + i)) = (ks (t + i)) then 0 else 1)) (W.runS (As := [.int (ks ((8 * q) + i)), .int (ks (t + i))]) (rest := []) ⟨hx, hb, hml, hown, hta⟩ (c_JIcompare l (ks (8 * q + i)) (ks (t + i))) (va_cwS 2 hta (gS w71 w72 w8 w73) rfl rfl rfl (by decide +kernel) ⟨Nat.le_of_ble_eq_true rfl, Nat.le_of_ble_eq_true rfl⟩) ⟨gb_T, fun U hU hW => ⟨rfl, trivial⟩⟩ rfl rfl hl.1 rfl (lv_room (Nat.le_of_ble_eq_true rfl)) dX_compareKey_34 ⟨Nat.le_of_ble_eq_true rfl, Nat.le_of_ble_eq_true rfl⟩) ?_
        refine lv_topi (fun ov eov => ?_)
        refine lv_istore (lv' := [(6, .int ov), (5, .int (nI i)), (4, .int (nI (8 * q))), (0, .ref (a 0)), (1, .int (nI q)), (2, .ref (a 4)), (3, .int (nI t))]) hx hb dX_compareKey_37 hl (by decide) rfl (fun ls hl => ?_)
        refine lv_iload hx hb dX_compareKey_39 (lv_at hl 0 rfl) ?_
        refine lv_if_eq (tgt := 47) hx hb dX_compareKey_41 (by decide) (fun h2 => ?_) (fun h2 => ?_)
        · skip
          have he : (ks (8 * q + i)) = (ks (t + i)) := by
            rcases i32_tri (ks (8 * q + i)) (ks (t + i)) with h | h | h
            · rw [eov, if_pos h] at h2; exact absurd h2 (by decide)
            · exact h
            · rw [eov, if_neg (i32_lt_asymm h), if_neg (fun q => by rw [q] at h; exact i32_lt_irr _ h)] at h2; exact absurd h2 (by decide)
          refine lv_iinc (v := (nI (i + 1))) (lv' := [(5, .int (nI (i + 1))), (6, .int ov), (4, .int (nI (8 * q))), (0, .ref (a 0)), (1, .int (nI q)), (2, .ref (a 4)), (3, .int (nI t))]) hx hb dX_compareKey_47 hl (k := 1) rfl (nI_1 _) (by decide) rfl (fun ls hl => ?_)
          refine lv_goto (tgt := 9) hx hb dX_compareKey_50 (by decide) ?_
          have hl := lv_sub hl [0, 2, 3, 4, 5, 6] rfl
          have hl : lv_has ls 7 [(5, .int (nI (i + 1))), (4, .int (nI (8 * q))), (0, .ref (a 0)), (1, .int (nI q)), (2, .ref (a 4)), (3, .int (nI t))] := hl
          exact ih (i + 1) (by omega) (hlx.trans (by simp only [lx, he, if_true, if_neg (i32_lt_irr _)])) ls hl
        · skip
          refine lv_iload hx hb dX_compareKey_44 (lv_at hl 0 rfl) ?_
          exact W.iret hx hb hr (fun t9 ht9 hW9 => ⟨congrArg (fun z => Outcome.returned (some (Value.int z))) (by
    rw [hlx, eov]; simp only [lx]
    by_cases q1 : (ks (8 * q + i)) < (ks (t + i))
    · rw [if_pos q1, if_pos q1]
    · by_cases q2 : (ks (8 * q + i)) = (ks (t + i))
      · exact absurd (by rw [eov, if_neg q1, if_pos q2]) h2
      · rw [if_neg q1, if_neg q1, if_neg q2, if_neg q2]), ht9⟩) (fun _ h => by cases h) dX_compareKey_46
  have hl := lv_sub hl [0, 1, 2, 3, 4, 5] rfl
  have hl : lv_has ls 7 [(5, .int (nI 0)), (4, .int (nI (8 * q))), (0, .ref (a 0)), (1, .int (nI q)), (2, .ref (a 4)), (3, .int (nI t))] := hl
  exact loop wn 0 (by omega) rfl ls hl
end
section
set_option maxHeartbeats 4000000 in
set_option maxRecDepth 100000 in
/-- isKeyAt, the parts being fk -/
theorem c_isKeyAtF (l : Launch) (dC : Nat → ClassId) (dI : Nat → Nat → Nat) (a : Nat → Nat) (k : Nat → ClassId) (wn : Nat) (ms n : Int32) (fk : Nat → Int32) (fa : Nat → Int64) (sl ks : Nat → Int32) (ct sm le gr : Nat → Int64) (σ : Nat → Nat) (pl t am : Nat) (hwn : wn ≤ 8) (hσ : perm σ sl) (hpl : pl ≤ 1000) (ht : t + 8 ≤ 8) (ham : am ≤ 1000) : Met l yX_isKeyAt (Cond.code yX_isKeyAt bX_isKeyAt 5 (some .boolean) :: wAll) { frames := 2, cells := 0, slots := 0, locals := 64 } (va_Pc [.ref (a 0), .int (nI pl), .ref (a 1), .int (nI t), .int (nI am)] (fun U => va_P (dC, dI) classes (wX a k (nI wn) ms n fk fa sl ks ct sm le gr) U.heap ∧ va_K (dC, dI) classes (kX k) U)) (QcV (.int (if pl < am ∧ lx (fun i => ks (8 * σ pl + i)) (fun i => fk (t + i)) wn 0 = 0 then 1 else 0))) 0 0 (fun _ => False) := by
  refine Met.ofW (cc := bX_isKeyAt) (maxL := 5) (ret := (some .boolean)) (by decide) rfl ?_
  intro p e s m args below meth c s₁ B hml hv
  obtain ⟨rfl, hP, hK⟩ := hv
  have hx := B.exec
  have hb := B.bytes
  have hr := B.returns
  have hta : ∀ w ∈ wAll, w.before ([.ref (a 0), .int (nI pl), .ref (a 1), .int (nI t), .int (nI am)] : List Value).toArray s = true := fun w h => atoms_spec (ws := (Cond.code yX_isKeyAt bX_isKeyAt 5 (some .boolean) :: wAll)) B.pre w (List.mem_cons_of_mem _ h)
  have hown : s.vm.findClass "GroupRows" = some m.cls := findClass_of_methodNamed B.named
  have hlocks := B.notSynchronized
  have hP : va_P (dC, dI) classes (wX a k (nI wn) ms n fk fa sl ks ct sm le gr) s.heap := hP
  have hl := lv_entry ([.ref (a 0), .int (nI pl), .ref (a 1), .int (nI t), .int (nI am)]) (n := 5) (Nat.le_of_ble_eq_true rfl)
  rw [lg_entry_eq]
  generalize (lg_sl ([.ref (a 0), .int (nI pl), .ref (a 1), .int (nI t), .int (nI am)]) ++ List.replicate (5 - (lg_sl ([.ref (a 0), .int (nI pl), .ref (a 1), .int (nI t), .int (nI am)])).length) Slot.unset).toArray = ls at hl ⊢
  have hl : lv_has ls 5 [(0, .ref (a 0)), (1, .int (nI pl)), (2, .ref (a 1)), (3, .int (nI t)), (4, .int (nI am))] := hl
  refine lv_iload_n hx hb dX_isKeyAt_0 rfl (lv_at hl 1 rfl) ?_
  refine lv_iload hx hb dX_isKeyAt_1 (lv_at hl 4 rfl) ?_
  refine lv_icmp_ge (tgt := 25) hx hb dX_isKeyAt_3 (by decide) (fun h1 => ?_) (fun h1 => ?_)
  · skip
    have h1 : am ≤ pl := (nI_leI (by omega) (by omega)).mp h1
    refine lv_iconst (v := 0) hx hb dX_isKeyAt_25 (by decide) ?_
    exact W.zret hx hb hr (rfl) (fun t9 ht9 hW9 => ⟨congrArg (fun z => Outcome.returned (some (Value.int z))) ((if_neg (fun q => absurd q.1 (by omega))).symm), ht9⟩) (fun _ h => by cases h) dX_isKeyAt_26
  · skip
    have h1 : pl < am := by
      rcases Nat.lt_or_ge pl am with q | q
      · exact q
      · exact absurd (nI_le q (by omega)) h1
    refine lv_aload_n hx hb dX_isKeyAt_6 rfl (lv_at hl 0 rfl) ?_
    refine lv_aload_n hx hb dX_isKeyAt_7 rfl (lv_at hl 0 rfl) ?_
    refine va_get (D := (dC, dI)) (ci := 0) (v := .ref (a 3)) (C := "GroupRows") (T := FX) (N := 11) hx hb hta inX hown hK hP 0 rfl rfl 5 (by decide) (hta _ w24) (fun _ h9 => h9) rfl dX_isKeyAt_8 ?_
    refine lv_iload_n hx hb dX_isKeyAt_11 rfl (lv_at hl 1 rfl) ?_
    refine gi_iald hx hb hK hP 3 2 rfl rfl (k := pl) (by omega) (by decide) dX_isKeyAt_12 ?_
    refine gi_as (y := nI (σ pl)) (hσ.1 pl (by omega)) ?_
    refine lv_aload_n hx hb dX_isKeyAt_13 rfl (lv_at hl 2 rfl) ?_
    refine lv_iload_n hx hb dX_isKeyAt_14 rfl (lv_at hl 3 rfl) ?_
    refine gi_callR (v := .int (lx (fun i => ks (8 * σ pl + i)) (fun i => fk (t + i)) wn 0)) (W.runV (As := [.int (nI (σ pl)), .ref (a 1), .int (nI t)]) (rest := []) ⟨hx, hb, hml, hown, hta⟩ (c_compareKeyF l dC dI a k wn ms n fk fa sl ks ct sm le gr (σ pl) t hwn (hσ.2.1 pl (by omega)) ht) (cwV 3 hta (gV w67 w69 sX_compareKey w1 w70) rfl rfl rfl (by decide +kernel) ⟨Nat.le_of_ble_eq_true rfl, Nat.le_of_ble_eq_true rfl⟩) ⟨gb_R, va_recv hK hP (ci := 0) (q0 := 0) rfl rfl, fun U hU hW => ⟨rfl, by rw [hU]; exact hP, va_K.moved hW.alike hK⟩⟩ rfl rfl hl.1 rfl (lv_room (Nat.le_of_ble_eq_true rfl)) dX_isKeyAt_15 ⟨Nat.le_of_ble_eq_true rfl, Nat.le_of_ble_eq_true rfl⟩) ?_
    refine lv_if_ne (tgt := 25) hx hb dX_isKeyAt_18 (by decide) (fun h2 => ?_) (fun h2 => ?_)
    · skip
      refine lv_iconst (v := 0) hx hb dX_isKeyAt_25 (by decide) ?_
      exact W.zret hx hb hr (rfl) (fun t9 ht9 hW9 => ⟨congrArg (fun z => Outcome.returned (some (Value.int z))) ((if_neg (fun q => h2 q.2)).symm), ht9⟩) (fun _ h => by cases h) dX_isKeyAt_26
    · skip
      refine lv_iconst (v := 1) hx hb dX_isKeyAt_21 (by decide) ?_
      refine lv_goto (tgt := 26) hx hb dX_isKeyAt_22 (by decide) ?_
      exact W.zret hx hb hr (rfl) (fun t9 ht9 hW9 => ⟨congrArg (fun z => Outcome.returned (some (Value.int z))) ((if_pos ⟨h1, h2⟩).symm), ht9⟩) (fun _ h => by cases h) dX_isKeyAt_26
set_option maxHeartbeats 4000000 in
set_option maxRecDepth 100000 in
/-- lowerPlace, the parts being fk -/
theorem c_lowerPlaceF (l : Launch) (dC : Nat → ClassId) (dI : Nat → Nat → Nat) (a : Nat → Nat) (k : Nat → ClassId) (wn : Nat) (ms n : Int32) (fk : Nat → Int32) (fa : Nat → Int64) (sl ks : Nat → Int32) (ct sm le gr : Nat → Int64) (σ : Nat → Nat) (t am ps : Nat) (hwn : wn ≤ 8) (hσ : perm σ sl) (ht : t + 8 ≤ 8) (ham : am ≤ 1000) (hlow : isLow wn am (fun j i => ks (8 * σ j + i)) (fun i => fk (t + i)) ps) : Met l yX_lowerPlace (Cond.code yX_lowerPlace bX_lowerPlace 7 (some .int) :: wAll) { frames := 2, cells := 0, slots := 0, locals := 64 } (va_Pc [.ref (a 0), .ref (a 1), .int (nI t), .int (nI am)] (fun U => va_P (dC, dI) classes (wX a k (nI wn) ms n fk fa sl ks ct sm le gr) U.heap ∧ va_K (dC, dI) classes (kX k) U)) (QcV (.int (nI ps))) 0 0 (fun _ => False) := by
  refine Met.ofW (cc := bX_lowerPlace) (maxL := 7) (ret := (some .int)) (by decide) rfl ?_
  intro p e s m args below meth c s₁ B hml hv
  obtain ⟨rfl, hP, hK⟩ := hv
  have hx := B.exec
  have hb := B.bytes
  have hr := B.returns
  have hta : ∀ w ∈ wAll, w.before ([.ref (a 0), .ref (a 1), .int (nI t), .int (nI am)] : List Value).toArray s = true := fun w h => atoms_spec (ws := (Cond.code yX_lowerPlace bX_lowerPlace 7 (some .int) :: wAll)) B.pre w (List.mem_cons_of_mem _ h)
  have hown : s.vm.findClass "GroupRows" = some m.cls := findClass_of_methodNamed B.named
  have hlocks := B.notSynchronized
  have hP : va_P (dC, dI) classes (wX a k (nI wn) ms n fk fa sl ks ct sm le gr) s.heap := hP
  have hl := lv_entry ([.ref (a 0), .ref (a 1), .int (nI t), .int (nI am)]) (n := 7) (Nat.le_of_ble_eq_true rfl)
  rw [lg_entry_eq]
  generalize (lg_sl ([.ref (a 0), .ref (a 1), .int (nI t), .int (nI am)]) ++ List.replicate (7 - (lg_sl ([.ref (a 0), .ref (a 1), .int (nI t), .int (nI am)])).length) Slot.unset).toArray = ls at hl ⊢
  have hl : lv_has ls 7 [(0, .ref (a 0)), (1, .ref (a 1)), (2, .int (nI t)), (3, .int (nI am))] := hl
  have hps := hlow.1
  refine lv_iconst (v := 0) hx hb dX_lowerPlace_0 (by decide) ?_
  refine gi_as (y := nI 0) (nI_0.symm) ?_
  refine lv_istore (lv' := [(4, .int (nI 0)), (0, .ref (a 0)), (1, .ref (a 1)), (2, .int (nI t)), (3, .int (nI am))]) hx hb dX_lowerPlace_1 hl (by decide) rfl (fun ls hl => ?_)
  refine lv_sipush (v := 512) hx hb dX_lowerPlace_3 (by decide) ?_
  refine gi_as (y := nI 512) (rfl) ?_
  refine lv_istore (lv' := [(5, .int (nI 512)), (4, .int (nI 0)), (0, .ref (a 0)), (1, .ref (a 1)), (2, .int (nI t)), (3, .int (nI am))]) hx hb dX_lowerPlace_6 hl (by decide) rfl (fun ls hl => ?_)
  have loop : ∀ (dd X lp pl : Nat), X = 2 ^ dd → X ≤ 1024 → lp = X / 2 → pl ≤ ps → ps < pl + X → ∀ (ls : Array Slot), lv_has ls 7 [(4, .int (nI pl)), (5, .int (nI lp)), (0, .ref (a 0)), (1, .ref (a 1)), (2, .int (nI t)), (3, .int (nI am))] → W p l e (headSpec (Cond.code yX_lowerPlace bX_lowerPlace 7 (some .int) :: wAll) { frames := 2, cells := 0, slots := 0, locals := 64 }).room s m ([.ref (a 0), .ref (a 1), .int (nI t), .int (nI am)] : List Value).toArray below meth c s.heap [] 0 0 (MQ below (QcV (.int (nI ps))) ([.ref (a 0), .ref (a 1), .int (nI t), .int (nI am)] : List Value).toArray s 0 0 (fun _ => False)) (F0 m 8 ls []) := by
    intro dd
    induction dd with
    | zero =>
      intro X lp pl hX hX2 hlp h1 h2 ls hl
      have hX : X = 1 := hX
      have hpl : pl = ps := by omega
      have hlp : lp = 0 := by omega
      subst hlp
      refine lv_iload hx hb dX_lowerPlace_8 (lv_at hl 1 rfl) ?_
      refine lv_if_le (tgt := 57) hx hb dX_lowerPlace_10 (by decide) (fun h3 => ?_) (fun h3 => ?_)
      · skip
        refine lv_iload hx hb dX_lowerPlace_57 (lv_at hl 0 rfl) ?_
        exact W.iret hx hb hr (fun t9 ht9 hW9 => ⟨congrArg (fun z => Outcome.returned (some (Value.int z))) (by rw [hpl]), ht9⟩) (fun _ h => by cases h) dX_lowerPlace_59
      · skip
        exact absurd (by rw [nI_0]; decide) h3
    | succ dd ih =>
      intro X lp pl hX hX2 hlp h1 h2 ls hl
      obtain ⟨PP, hPP⟩ : ∃ PP, PP = 2 ^ dd := ⟨_, rfl⟩
      have hP1 : 1 ≤ PP := by rw [hPP]; exact Nat.one_le_two_pow
      have hX' : X = 2 * PP := by rw [hX, Nat.pow_succ, ← hPP]; omega
      have hlp' : lp = PP := by omega
      refine lv_iload hx hb dX_lowerPlace_8 (lv_at hl 1 rfl) ?_
      refine lv_if_le (tgt := 57) hx hb dX_lowerPlace_10 (by decide) (fun h3 => ?_) (fun h3 => ?_)
      · skip
        exact absurd h3 (nI_nle (by omega) (by omega))
      · skip
        refine lv_iload hx hb dX_lowerPlace_13 (lv_at hl 0 rfl) ?_
        refine lv_iload hx hb dX_lowerPlace_15 (lv_at hl 1 rfl) ?_
        refine lv_iadd hx hb dX_lowerPlace_17 ?_
        refine gi_as (y := nI (pl + lp)) (nI_add _ _) ?_
        refine lv_istore (lv' := [(6, .int (nI (pl + lp))), (4, .int (nI pl)), (5, .int (nI lp)), (0, .ref (a 0)), (1, .ref (a 1)), (2, .int (nI t)), (3, .int (nI am))]) hx hb dX_lowerPlace_18 hl (by decide) rfl (fun ls hl => ?_)
        refine lv_iload hx hb dX_lowerPlace_20 (lv_at hl 0 rfl) ?_
        refine lv_iload_n hx hb dX_lowerPlace_22 rfl (lv_at hl 6 rfl) ?_
        refine lv_icmp_gt (tgt := 48) hx hb dX_lowerPlace_23 (by decide) (fun h4 => ?_) (fun h4 => ?_)
        · skip
          have h4 : am < pl + lp := (nI_ltI (by omega) (by omega)).mp h4
          refine lv_iload hx hb dX_lowerPlace_48 (lv_at hl 2 rfl) ?_
          refine lv_iconst (v := 2) hx hb dX_lowerPlace_50 (by decide) ?_
          refine lv_idiv hx hb dX_lowerPlace_51 (by decide) ?_
          refine gi_as (y := nI (lp / 2)) (gi_half (by omega)) ?_
          refine lv_istore (lv' := [(5, .int (nI (lp / 2))), (6, .int (nI (pl + lp))), (4, .int (nI pl)), (0, .ref (a 0)), (1, .ref (a 1)), (2, .int (nI t)), (3, .int (nI am))]) hx hb dX_lowerPlace_52 hl (by decide) rfl (fun ls hl => ?_)
          refine lv_goto (tgt := 8) hx hb dX_lowerPlace_54 (by decide) ?_
          have hl := lv_sub hl [2, 0, 3, 4, 5, 6] rfl
          have hl : lv_has ls 7 [(4, .int (nI pl)), (5, .int (nI (lp / 2))), (0, .ref (a 0)), (1, .ref (a 1)), (2, .int (nI t)), (3, .int (nI am))] := hl
          exact ih PP (lp / 2) pl hPP (by omega) (by omega) (by omega) (by omega) ls hl
        · skip
          have h4 : pl + lp ≤ am := by
            rcases Nat.lt_or_ge am (pl + lp) with q | q
            · exact absurd (nI_lt q (by omega)) h4
            · exact q
          refine lv_aload_n hx hb dX_lowerPlace_26 rfl (lv_at hl 3 rfl) ?_
          refine lv_aload_n hx hb dX_lowerPlace_27 rfl (lv_at hl 3 rfl) ?_
          refine va_get (D := (dC, dI)) (ci := 0) (v := .ref (a 3)) (C := "GroupRows") (T := FX) (N := 11) hx hb hta inX hown hK hP 0 rfl rfl 5 (by decide) (hta _ w24) (fun _ h9 => h9) rfl dX_lowerPlace_28 ?_
          refine lv_iload hx hb dX_lowerPlace_31 (lv_at hl 0 rfl) ?_
          refine lv_iconst (v := 1) hx hb dX_lowerPlace_33 (by decide) ?_
          refine lv_isub hx hb dX_lowerPlace_34 ?_
          refine gi_as (y := nI (pl + lp - 1)) (pk_sub (b := 1) (by omega)) ?_
          refine gi_iald hx hb hK hP 3 2 rfl rfl (k := (pl + lp - 1)) (by omega) (by decide) dX_lowerPlace_35 ?_
          refine gi_as (y := nI (σ (pl + lp - 1))) (hσ.1 _ (by omega)) ?_
          refine lv_aload_n hx hb dX_lowerPlace_36 rfl (lv_at hl 4 rfl) ?_
          refine lv_iload_n hx hb dX_lowerPlace_37 rfl (lv_at hl 5 rfl) ?_
          refine gi_callR (v := .int (lx (fun i => ks (8 * σ (pl + lp - 1) + i)) (fun i => fk (t + i)) wn 0)) (W.runV (As := [.int (nI (σ (pl + lp - 1))), .ref (a 1), .int (nI t)]) (rest := []) ⟨hx, hb, hml, hown, hta⟩ (c_compareKeyF l dC dI a k wn ms n fk fa sl ks ct sm le gr (σ (pl + lp - 1)) t hwn (hσ.2.1 _ (by omega)) ht) (cwV 3 hta (gV w67 w69 sX_compareKey w1 w70) rfl rfl rfl (by decide +kernel) ⟨Nat.le_of_ble_eq_true rfl, Nat.le_of_ble_eq_true rfl⟩) ⟨gb_R, va_recv hK hP (ci := 0) (q0 := 0) rfl rfl, fun U hU hW => ⟨rfl, by rw [hU]; exact hP, va_K.moved hW.alike hK⟩⟩ rfl rfl hl.1 rfl (lv_room (Nat.le_of_ble_eq_true rfl)) dX_lowerPlace_38 ⟨Nat.le_of_ble_eq_true rfl, Nat.le_of_ble_eq_true rfl⟩) ?_
          refine lv_if_ge (tgt := 48) hx hb dX_lowerPlace_41 (by decide) (fun h5 => ?_) (fun h5 => ?_)
          · skip
            have h5 : ps < pl + lp := by
              rcases Nat.lt_or_ge ps (pl + lp) with q | q
              · exact q
              · exact absurd (lx_lt.mpr (hlow.2.1 (pl + lp - 1) (by omega))) (Int32.not_lt.mpr h5)
            refine lv_iload hx hb dX_lowerPlace_48 (lv_at hl 2 rfl) ?_
            refine lv_iconst (v := 2) hx hb dX_lowerPlace_50 (by decide) ?_
            refine lv_idiv hx hb dX_lowerPlace_51 (by decide) ?_
            refine gi_as (y := nI (lp / 2)) (gi_half (by omega)) ?_
            refine lv_istore (lv' := [(5, .int (nI (lp / 2))), (6, .int (nI (pl + lp))), (4, .int (nI pl)), (0, .ref (a 0)), (1, .ref (a 1)), (2, .int (nI t)), (3, .int (nI am))]) hx hb dX_lowerPlace_52 hl (by decide) rfl (fun ls hl => ?_)
            refine lv_goto (tgt := 8) hx hb dX_lowerPlace_54 (by decide) ?_
            have hl := lv_sub hl [2, 0, 3, 4, 5, 6] rfl
            have hl : lv_has ls 7 [(4, .int (nI pl)), (5, .int (nI (lp / 2))), (0, .ref (a 0)), (1, .ref (a 1)), (2, .int (nI t)), (3, .int (nI am))] := hl
            exact ih PP (lp / 2) pl hPP (by omega) (by omega) (by omega) (by omega) ls hl
          · skip
            have h5 : pl + lp ≤ ps := by
              rcases Nat.lt_or_ge ps (pl + lp) with q | q
              · exact absurd (lx_lt.mp (Int32.not_le.mp h5)) (hlow.2.2 (pl + lp - 1) (by omega) (by omega))
              · exact q
            refine lv_iload hx hb dX_lowerPlace_44 (lv_at hl 0 rfl) ?_
            refine lv_istore (lv' := [(4, .int (nI (pl + lp))), (6, .int (nI (pl + lp))), (5, .int (nI lp)), (0, .ref (a 0)), (1, .ref (a 1)), (2, .int (nI t)), (3, .int (nI am))]) hx hb dX_lowerPlace_46 hl (by decide) rfl (fun ls hl => ?_)
            refine lv_iload hx hb dX_lowerPlace_48 (lv_at hl 2 rfl) ?_
            refine lv_iconst (v := 2) hx hb dX_lowerPlace_50 (by decide) ?_
            refine lv_idiv hx hb dX_lowerPlace_51 (by decide) ?_
            refine gi_as (y := nI (lp / 2)) (gi_half (by omega)) ?_
            refine lv_istore (lv' := [(5, .int (nI (lp / 2))), (4, .int (nI (pl + lp))), (6, .int (nI (pl + lp))), (0, .ref (a 0)), (1, .ref (a 1)), (2, .int (nI t)), (3, .int (nI am))]) hx hb dX_lowerPlace_52 hl (by decide) rfl (fun ls hl => ?_)
            refine lv_goto (tgt := 8) hx hb dX_lowerPlace_54 (by decide) ?_
            have hl := lv_sub hl [1, 0, 3, 4, 5, 6] rfl
            have hl : lv_has ls 7 [(4, .int (nI (pl + lp))), (5, .int (nI (lp / 2))), (0, .ref (a 0)), (1, .ref (a 1)), (2, .int (nI t)), (3, .int (nI am))] := hl
            exact ih PP (lp / 2) (pl + lp) hPP (by omega) (by omega) (by omega) (by omega) ls hl
  have hl := lv_sub hl [1, 0, 2, 3, 4, 5] rfl
  have hl : lv_has ls 7 [(4, .int (nI 0)), (5, .int (nI 512)), (0, .ref (a 0)), (1, .ref (a 1)), (2, .int (nI t)), (3, .int (nI am))] := hl
  exact loop 10 1024 512 0 rfl (by omega) rfl (by omega) (by omega) ls hl
set_option maxHeartbeats 4000000 in
set_option maxRecDepth 100000 in
/-- isKeyAt, the parts being ks -/
theorem c_isKeyAtK (l : Launch) (dC : Nat → ClassId) (dI : Nat → Nat → Nat) (a : Nat → Nat) (k : Nat → ClassId) (wn : Nat) (ms n : Int32) (fk : Nat → Int32) (fa : Nat → Int64) (sl ks : Nat → Int32) (ct sm le gr : Nat → Int64) (σ : Nat → Nat) (pl t am : Nat) (hwn : wn ≤ 8) (hσ : perm σ sl) (hpl : pl ≤ 1000) (ht : t + 8 ≤ 8000) (ham : am ≤ 1000) : Met l yX_isKeyAt (Cond.code yX_isKeyAt bX_isKeyAt 5 (some .boolean) :: wAll) { frames := 2, cells := 0, slots := 0, locals := 64 } (va_Pc [.ref (a 0), .int (nI pl), .ref (a 4), .int (nI t), .int (nI am)] (fun U => va_P (dC, dI) classes (wX a k (nI wn) ms n fk fa sl ks ct sm le gr) U.heap ∧ va_K (dC, dI) classes (kX k) U)) (QcV (.int (if pl < am ∧ lx (fun i => ks (8 * σ pl + i)) (fun i => ks (t + i)) wn 0 = 0 then 1 else 0))) 0 0 (fun _ => False) := by
  refine Met.ofW (cc := bX_isKeyAt) (maxL := 5) (ret := (some .boolean)) (by decide) rfl ?_
  intro p e s m args below meth c s₁ B hml hv
  obtain ⟨rfl, hP, hK⟩ := hv
  have hx := B.exec
  have hb := B.bytes
  have hr := B.returns
  have hta : ∀ w ∈ wAll, w.before ([.ref (a 0), .int (nI pl), .ref (a 4), .int (nI t), .int (nI am)] : List Value).toArray s = true := fun w h => atoms_spec (ws := (Cond.code yX_isKeyAt bX_isKeyAt 5 (some .boolean) :: wAll)) B.pre w (List.mem_cons_of_mem _ h)
  have hown : s.vm.findClass "GroupRows" = some m.cls := findClass_of_methodNamed B.named
  have hlocks := B.notSynchronized
  have hP : va_P (dC, dI) classes (wX a k (nI wn) ms n fk fa sl ks ct sm le gr) s.heap := hP
  have hl := lv_entry ([.ref (a 0), .int (nI pl), .ref (a 4), .int (nI t), .int (nI am)]) (n := 5) (Nat.le_of_ble_eq_true rfl)
  rw [lg_entry_eq]
  generalize (lg_sl ([.ref (a 0), .int (nI pl), .ref (a 4), .int (nI t), .int (nI am)]) ++ List.replicate (5 - (lg_sl ([.ref (a 0), .int (nI pl), .ref (a 4), .int (nI t), .int (nI am)])).length) Slot.unset).toArray = ls at hl ⊢
  have hl : lv_has ls 5 [(0, .ref (a 0)), (1, .int (nI pl)), (2, .ref (a 4)), (3, .int (nI t)), (4, .int (nI am))] := hl
  refine lv_iload_n hx hb dX_isKeyAt_0 rfl (lv_at hl 1 rfl) ?_
  refine lv_iload hx hb dX_isKeyAt_1 (lv_at hl 4 rfl) ?_
  refine lv_icmp_ge (tgt := 25) hx hb dX_isKeyAt_3 (by decide) (fun h1 => ?_) (fun h1 => ?_)
  · skip
    have h1 : am ≤ pl := (nI_leI (by omega) (by omega)).mp h1
    refine lv_iconst (v := 0) hx hb dX_isKeyAt_25 (by decide) ?_
    exact W.zret hx hb hr (rfl) (fun t9 ht9 hW9 => ⟨congrArg (fun z => Outcome.returned (some (Value.int z))) ((if_neg (fun q => absurd q.1 (by omega))).symm), ht9⟩) (fun _ h => by cases h) dX_isKeyAt_26
  · skip
    have h1 : pl < am := by
      rcases Nat.lt_or_ge pl am with q | q
      · exact q
      · exact absurd (nI_le q (by omega)) h1
    refine lv_aload_n hx hb dX_isKeyAt_6 rfl (lv_at hl 0 rfl) ?_
    refine lv_aload_n hx hb dX_isKeyAt_7 rfl (lv_at hl 0 rfl) ?_
    refine va_get (D := (dC, dI)) (ci := 0) (v := .ref (a 3)) (C := "GroupRows") (T := FX) (N := 11) hx hb hta inX hown hK hP 0 rfl rfl 5 (by decide) (hta _ w24) (fun _ h9 => h9) rfl dX_isKeyAt_8 ?_
    refine lv_iload_n hx hb dX_isKeyAt_11 rfl (lv_at hl 1 rfl) ?_
    refine gi_iald hx hb hK hP 3 2 rfl rfl (k := pl) (by omega) (by decide) dX_isKeyAt_12 ?_
    refine gi_as (y := nI (σ pl)) (hσ.1 pl (by omega)) ?_
    refine lv_aload_n hx hb dX_isKeyAt_13 rfl (lv_at hl 2 rfl) ?_
    refine lv_iload_n hx hb dX_isKeyAt_14 rfl (lv_at hl 3 rfl) ?_
    refine gi_callR (v := .int (lx (fun i => ks (8 * σ pl + i)) (fun i => ks (t + i)) wn 0)) (W.runV (As := [.int (nI (σ pl)), .ref (a 4), .int (nI t)]) (rest := []) ⟨hx, hb, hml, hown, hta⟩ (c_compareKeyK l dC dI a k wn ms n fk fa sl ks ct sm le gr (σ pl) t hwn (hσ.2.1 pl (by omega)) ht) (cwV 3 hta (gV w67 w69 sX_compareKey w1 w70) rfl rfl rfl (by decide +kernel) ⟨Nat.le_of_ble_eq_true rfl, Nat.le_of_ble_eq_true rfl⟩) ⟨gb_R, va_recv hK hP (ci := 0) (q0 := 0) rfl rfl, fun U hU hW => ⟨rfl, by rw [hU]; exact hP, va_K.moved hW.alike hK⟩⟩ rfl rfl hl.1 rfl (lv_room (Nat.le_of_ble_eq_true rfl)) dX_isKeyAt_15 ⟨Nat.le_of_ble_eq_true rfl, Nat.le_of_ble_eq_true rfl⟩) ?_
    refine lv_if_ne (tgt := 25) hx hb dX_isKeyAt_18 (by decide) (fun h2 => ?_) (fun h2 => ?_)
    · skip
      refine lv_iconst (v := 0) hx hb dX_isKeyAt_25 (by decide) ?_
      exact W.zret hx hb hr (rfl) (fun t9 ht9 hW9 => ⟨congrArg (fun z => Outcome.returned (some (Value.int z))) ((if_neg (fun q => h2 q.2)).symm), ht9⟩) (fun _ h => by cases h) dX_isKeyAt_26
    · skip
      refine lv_iconst (v := 1) hx hb dX_isKeyAt_21 (by decide) ?_
      refine lv_goto (tgt := 26) hx hb dX_isKeyAt_22 (by decide) ?_
      exact W.zret hx hb hr (rfl) (fun t9 ht9 hW9 => ⟨congrArg (fun z => Outcome.returned (some (Value.int z))) ((if_pos ⟨h1, h2⟩).symm), ht9⟩) (fun _ h => by cases h) dX_isKeyAt_26
set_option maxHeartbeats 4000000 in
set_option maxRecDepth 100000 in
/-- lowerPlace, the parts being ks -/
theorem c_lowerPlaceK (l : Launch) (dC : Nat → ClassId) (dI : Nat → Nat → Nat) (a : Nat → Nat) (k : Nat → ClassId) (wn : Nat) (ms n : Int32) (fk : Nat → Int32) (fa : Nat → Int64) (sl ks : Nat → Int32) (ct sm le gr : Nat → Int64) (σ : Nat → Nat) (t am ps : Nat) (hwn : wn ≤ 8) (hσ : perm σ sl) (ht : t + 8 ≤ 8000) (ham : am ≤ 1000) (hlow : isLow wn am (fun j i => ks (8 * σ j + i)) (fun i => ks (t + i)) ps) : Met l yX_lowerPlace (Cond.code yX_lowerPlace bX_lowerPlace 7 (some .int) :: wAll) { frames := 2, cells := 0, slots := 0, locals := 64 } (va_Pc [.ref (a 0), .ref (a 4), .int (nI t), .int (nI am)] (fun U => va_P (dC, dI) classes (wX a k (nI wn) ms n fk fa sl ks ct sm le gr) U.heap ∧ va_K (dC, dI) classes (kX k) U)) (QcV (.int (nI ps))) 0 0 (fun _ => False) := by
  refine Met.ofW (cc := bX_lowerPlace) (maxL := 7) (ret := (some .int)) (by decide) rfl ?_
  intro p e s m args below meth c s₁ B hml hv
  obtain ⟨rfl, hP, hK⟩ := hv
  have hx := B.exec
  have hb := B.bytes
  have hr := B.returns
  have hta : ∀ w ∈ wAll, w.before ([.ref (a 0), .ref (a 4), .int (nI t), .int (nI am)] : List Value).toArray s = true := fun w h => atoms_spec (ws := (Cond.code yX_lowerPlace bX_lowerPlace 7 (some .int) :: wAll)) B.pre w (List.mem_cons_of_mem _ h)
  have hown : s.vm.findClass "GroupRows" = some m.cls := findClass_of_methodNamed B.named
  have hlocks := B.notSynchronized
  have hP : va_P (dC, dI) classes (wX a k (nI wn) ms n fk fa sl ks ct sm le gr) s.heap := hP
  have hl := lv_entry ([.ref (a 0), .ref (a 4), .int (nI t), .int (nI am)]) (n := 7) (Nat.le_of_ble_eq_true rfl)
  rw [lg_entry_eq]
  generalize (lg_sl ([.ref (a 0), .ref (a 4), .int (nI t), .int (nI am)]) ++ List.replicate (7 - (lg_sl ([.ref (a 0), .ref (a 4), .int (nI t), .int (nI am)])).length) Slot.unset).toArray = ls at hl ⊢
  have hl : lv_has ls 7 [(0, .ref (a 0)), (1, .ref (a 4)), (2, .int (nI t)), (3, .int (nI am))] := hl
  have hps := hlow.1
  refine lv_iconst (v := 0) hx hb dX_lowerPlace_0 (by decide) ?_
  refine gi_as (y := nI 0) (nI_0.symm) ?_
  refine lv_istore (lv' := [(4, .int (nI 0)), (0, .ref (a 0)), (1, .ref (a 4)), (2, .int (nI t)), (3, .int (nI am))]) hx hb dX_lowerPlace_1 hl (by decide) rfl (fun ls hl => ?_)
  refine lv_sipush (v := 512) hx hb dX_lowerPlace_3 (by decide) ?_
  refine gi_as (y := nI 512) (rfl) ?_
  refine lv_istore (lv' := [(5, .int (nI 512)), (4, .int (nI 0)), (0, .ref (a 0)), (1, .ref (a 4)), (2, .int (nI t)), (3, .int (nI am))]) hx hb dX_lowerPlace_6 hl (by decide) rfl (fun ls hl => ?_)
  have loop : ∀ (dd X lp pl : Nat), X = 2 ^ dd → X ≤ 1024 → lp = X / 2 → pl ≤ ps → ps < pl + X → ∀ (ls : Array Slot), lv_has ls 7 [(4, .int (nI pl)), (5, .int (nI lp)), (0, .ref (a 0)), (1, .ref (a 4)), (2, .int (nI t)), (3, .int (nI am))] → W p l e (headSpec (Cond.code yX_lowerPlace bX_lowerPlace 7 (some .int) :: wAll) { frames := 2, cells := 0, slots := 0, locals := 64 }).room s m ([.ref (a 0), .ref (a 4), .int (nI t), .int (nI am)] : List Value).toArray below meth c s.heap [] 0 0 (MQ below (QcV (.int (nI ps))) ([.ref (a 0), .ref (a 4), .int (nI t), .int (nI am)] : List Value).toArray s 0 0 (fun _ => False)) (F0 m 8 ls []) := by
    intro dd
    induction dd with
    | zero =>
      intro X lp pl hX hX2 hlp h1 h2 ls hl
      have hX : X = 1 := hX
      have hpl : pl = ps := by omega
      have hlp : lp = 0 := by omega
      subst hlp
      refine lv_iload hx hb dX_lowerPlace_8 (lv_at hl 1 rfl) ?_
      refine lv_if_le (tgt := 57) hx hb dX_lowerPlace_10 (by decide) (fun h3 => ?_) (fun h3 => ?_)
      · skip
        refine lv_iload hx hb dX_lowerPlace_57 (lv_at hl 0 rfl) ?_
        exact W.iret hx hb hr (fun t9 ht9 hW9 => ⟨congrArg (fun z => Outcome.returned (some (Value.int z))) (by rw [hpl]), ht9⟩) (fun _ h => by cases h) dX_lowerPlace_59
      · skip
        exact absurd (by rw [nI_0]; decide) h3
    | succ dd ih =>
      intro X lp pl hX hX2 hlp h1 h2 ls hl
      obtain ⟨PP, hPP⟩ : ∃ PP, PP = 2 ^ dd := ⟨_, rfl⟩
      have hP1 : 1 ≤ PP := by rw [hPP]; exact Nat.one_le_two_pow
      have hX' : X = 2 * PP := by rw [hX, Nat.pow_succ, ← hPP]; omega
      have hlp' : lp = PP := by omega
      refine lv_iload hx hb dX_lowerPlace_8 (lv_at hl 1 rfl) ?_
      refine lv_if_le (tgt := 57) hx hb dX_lowerPlace_10 (by decide) (fun h3 => ?_) (fun h3 => ?_)
      · skip
        exact absurd h3 (nI_nle (by omega) (by omega))
      · skip
        refine lv_iload hx hb dX_lowerPlace_13 (lv_at hl 0 rfl) ?_
        refine lv_iload hx hb dX_lowerPlace_15 (lv_at hl 1 rfl) ?_
        refine lv_iadd hx hb dX_lowerPlace_17 ?_
        refine gi_as (y := nI (pl + lp)) (nI_add _ _) ?_
        refine lv_istore (lv' := [(6, .int (nI (pl + lp))), (4, .int (nI pl)), (5, .int (nI lp)), (0, .ref (a 0)), (1, .ref (a 4)), (2, .int (nI t)), (3, .int (nI am))]) hx hb dX_lowerPlace_18 hl (by decide) rfl (fun ls hl => ?_)
        refine lv_iload hx hb dX_lowerPlace_20 (lv_at hl 0 rfl) ?_
        refine lv_iload_n hx hb dX_lowerPlace_22 rfl (lv_at hl 6 rfl) ?_
        refine lv_icmp_gt (tgt := 48) hx hb dX_lowerPlace_23 (by decide) (fun h4 => ?_) (fun h4 => ?_)
        · skip
          have h4 : am < pl + lp := (nI_ltI (by omega) (by omega)).mp h4
          refine lv_iload hx hb dX_lowerPlace_48 (lv_at hl 2 rfl) ?_
          refine lv_iconst (v := 2) hx hb dX_lowerPlace_50 (by decide) ?_
          refine lv_idiv hx hb dX_lowerPlace_51 (by decide) ?_
          refine gi_as (y := nI (lp / 2)) (gi_half (by omega)) ?_
          refine lv_istore (lv' := [(5, .int (nI (lp / 2))), (6, .int (nI (pl + lp))), (4, .int (nI pl)), (0, .ref (a 0)), (1, .ref (a 4)), (2, .int (nI t)), (3, .int (nI am))]) hx hb dX_lowerPlace_52 hl (by decide) rfl (fun ls hl => ?_)
          refine lv_goto (tgt := 8) hx hb dX_lowerPlace_54 (by decide) ?_
          have hl := lv_sub hl [2, 0, 3, 4, 5, 6] rfl
          have hl : lv_has ls 7 [(4, .int (nI pl)), (5, .int (nI (lp / 2))), (0, .ref (a 0)), (1, .ref (a 4)), (2, .int (nI t)), (3, .int (nI am))] := hl
          exact ih PP (lp / 2) pl hPP (by omega) (by omega) (by omega) (by omega) ls hl
        · skip
          have h4 : pl + lp ≤ am := by
            rcases Nat.lt_or_ge am (pl + lp) with q | q
            · exact absurd (nI_lt q (by omega)) h4
            · exact q
          refine lv_aload_n hx hb dX_lowerPlace_26 rfl (lv_at hl 3 rfl) ?_
          refine lv_aload_n hx hb dX_lowerPlace_27 rfl (lv_at hl 3 rfl) ?_
          refine va_get (D := (dC, dI)) (ci := 0) (v := .ref (a 3)) (C := "GroupRows") (T := FX) (N := 11) hx hb hta inX hown hK hP 0 rfl rfl 5 (by decide) (hta _ w24) (fun _ h9 => h9) rfl dX_lowerPlace_28 ?_
          refine lv_iload hx hb dX_lowerPlace_31 (lv_at hl 0 rfl) ?_
          refine lv_iconst (v := 1) hx hb dX_lowerPlace_33 (by decide) ?_
          refine lv_isub hx hb dX_lowerPlace_34 ?_
          refine gi_as (y := nI (pl + lp - 1)) (pk_sub (b := 1) (by omega)) ?_
          refine gi_iald hx hb hK hP 3 2 rfl rfl (k := (pl + lp - 1)) (by omega) (by decide) dX_lowerPlace_35 ?_
          refine gi_as (y := nI (σ (pl + lp - 1))) (hσ.1 _ (by omega)) ?_
          refine lv_aload_n hx hb dX_lowerPlace_36 rfl (lv_at hl 4 rfl) ?_
          refine lv_iload_n hx hb dX_lowerPlace_37 rfl (lv_at hl 5 rfl) ?_
          refine gi_callR (v := .int (lx (fun i => ks (8 * σ (pl + lp - 1) + i)) (fun i => ks (t + i)) wn 0)) (W.runV (As := [.int (nI (σ (pl + lp - 1))), .ref (a 4), .int (nI t)]) (rest := []) ⟨hx, hb, hml, hown, hta⟩ (c_compareKeyK l dC dI a k wn ms n fk fa sl ks ct sm le gr (σ (pl + lp - 1)) t hwn (hσ.2.1 _ (by omega)) ht) (cwV 3 hta (gV w67 w69 sX_compareKey w1 w70) rfl rfl rfl (by decide +kernel) ⟨Nat.le_of_ble_eq_true rfl, Nat.le_of_ble_eq_true rfl⟩) ⟨gb_R, va_recv hK hP (ci := 0) (q0 := 0) rfl rfl, fun U hU hW => ⟨rfl, by rw [hU]; exact hP, va_K.moved hW.alike hK⟩⟩ rfl rfl hl.1 rfl (lv_room (Nat.le_of_ble_eq_true rfl)) dX_lowerPlace_38 ⟨Nat.le_of_ble_eq_true rfl, Nat.le_of_ble_eq_true rfl⟩) ?_
          refine lv_if_ge (tgt := 48) hx hb dX_lowerPlace_41 (by decide) (fun h5 => ?_) (fun h5 => ?_)
          · skip
            have h5 : ps < pl + lp := by
              rcases Nat.lt_or_ge ps (pl + lp) with q | q
              · exact q
              · exact absurd (lx_lt.mpr (hlow.2.1 (pl + lp - 1) (by omega))) (Int32.not_lt.mpr h5)
            refine lv_iload hx hb dX_lowerPlace_48 (lv_at hl 2 rfl) ?_
            refine lv_iconst (v := 2) hx hb dX_lowerPlace_50 (by decide) ?_
            refine lv_idiv hx hb dX_lowerPlace_51 (by decide) ?_
            refine gi_as (y := nI (lp / 2)) (gi_half (by omega)) ?_
            refine lv_istore (lv' := [(5, .int (nI (lp / 2))), (6, .int (nI (pl + lp))), (4, .int (nI pl)), (0, .ref (a 0)), (1, .ref (a 4)), (2, .int (nI t)), (3, .int (nI am))]) hx hb dX_lowerPlace_52 hl (by decide) rfl (fun ls hl => ?_)
            refine lv_goto (tgt := 8) hx hb dX_lowerPlace_54 (by decide) ?_
            have hl := lv_sub hl [2, 0, 3, 4, 5, 6] rfl
            have hl : lv_has ls 7 [(4, .int (nI pl)), (5, .int (nI (lp / 2))), (0, .ref (a 0)), (1, .ref (a 4)), (2, .int (nI t)), (3, .int (nI am))] := hl
            exact ih PP (lp / 2) pl hPP (by omega) (by omega) (by omega) (by omega) ls hl
          · skip
            have h5 : pl + lp ≤ ps := by
              rcases Nat.lt_or_ge ps (pl + lp) with q | q
              · exact absurd (lx_lt.mp (Int32.not_le.mp h5)) (hlow.2.2 (pl + lp - 1) (by omega) (by omega))
              · exact q
            refine lv_iload hx hb dX_lowerPlace_44 (lv_at hl 0 rfl) ?_
            refine lv_istore (lv' := [(4, .int (nI (pl + lp))), (6, .int (nI (pl + lp))), (5, .int (nI lp)), (0, .ref (a 0)), (1, .ref (a 4)), (2, .int (nI t)), (3, .int (nI am))]) hx hb dX_lowerPlace_46 hl (by decide) rfl (fun ls hl => ?_)
            refine lv_iload hx hb dX_lowerPlace_48 (lv_at hl 2 rfl) ?_
            refine lv_iconst (v := 2) hx hb dX_lowerPlace_50 (by decide) ?_
            refine lv_idiv hx hb dX_lowerPlace_51 (by decide) ?_
            refine gi_as (y := nI (lp / 2)) (gi_half (by omega)) ?_
            refine lv_istore (lv' := [(5, .int (nI (lp / 2))), (4, .int (nI (pl + lp))), (6, .int (nI (pl + lp))), (0, .ref (a 0)), (1, .ref (a 4)), (2, .int (nI t)), (3, .int (nI am))]) hx hb dX_lowerPlace_52 hl (by decide) rfl (fun ls hl => ?_)
            refine lv_goto (tgt := 8) hx hb dX_lowerPlace_54 (by decide) ?_
            have hl := lv_sub hl [1, 0, 3, 4, 5, 6] rfl
            have hl : lv_has ls 7 [(4, .int (nI (pl + lp))), (5, .int (nI (lp / 2))), (0, .ref (a 0)), (1, .ref (a 4)), (2, .int (nI t)), (3, .int (nI am))] := hl
            exact ih PP (lp / 2) (pl + lp) hPP (by omega) (by omega) (by omega) (by omega) ls hl
  have hl := lv_sub hl [1, 0, 2, 3, 4, 5] rfl
  have hl : lv_has ls 7 [(4, .int (nI 0)), (5, .int (nI 512)), (0, .ref (a 0)), (1, .ref (a 4)), (2, .int (nI t)), (3, .int (nI am))] := hl
  exact loop 10 1024 512 0 rfl (by omega) rfl (by omega) (by omega) ls hl
end
section
/-! more rows: a copy by numbers of mine; arrays written one place after the other -/
theorem gi_nn {n : Nat} (h : n < 2 ^ 31) : ¬ nI n < 0 := nI_pos h
section GJ
variable {p : Program} {l : Launch} {e : Env} {R : Room} {s : State} {m : MethodId} {args : Array Value} {below : List Frame} {meth : Method} {c : Code} {H : Heap} {locs : List Loc} {cells slots : Nat} {Q : State → Prop}
variable {cc : ByteArray} {pc : Nat} {ls : Array Slot} {rest : List Value} {D : va_G} {cl : List vw_C} {A : Nat → Prop} {a : Nat} {tys : List (ClassId × FieldType)} {ws : va_W} {H0 : Heap}
theorem gi_copyi (hexec : p.tables.exec = Jvm.exec) (hb : c.code = cc) (hml : c.maxLocals = ls.size) {own : String} {index : Nat} (hown : s.vm.findClass own = some m.cls) (hlink : (Cond.methodLink own index arraycopyName).before args s = true) (hnat : (Cond.native arraycopyName).before args s = true) (hstat : (Cond.static arraycopyName).before args s = true) (hini : (Cond.initialized "java/lang/System").before args s = true)
    (hK : va_K D cl tys s) (hP : va_P D cl ws H) (hD : va_D A ws) (hS : va_S A H0 H locs) (q0 q1 t0 t1 : Nat) {a0 : Nat} {c0 c1 : ClassId} {n0 n1 : Nat} {f g : Nat → Int32} (ha0 : ws[q0]? = some (a0, .inl (c0, n0, .inl f))) (ha1 : ws[q1]? = some (a, .inl (c1, n1, .inl g))) (ht0 : tys[t0]? = some (c0, .int)) (ht1 : tys[t1]? = some (c1, .int))
    {x y z : Nat} (h4 : x + z ≤ n0) (h5 : y + z ≤ n1) (hn0 : n0 < 2 ^ 31) (hn1 : n1 < 2 ^ 31)
    (hframes : 1 ≤ R.frames) (hlocals : (rest.map fun v => v.category).sum + (nativeFrameWords "java/lang/System" "arraycopy" 5 + 11) ≤ R.locals) (hdg : decode cc pc = .ok (.invokestatic index, 3))
    (kk : ∀ (H1 : Heap) (locs1 : List Loc), va_P D cl (ws.set q1 (a, .inl (c1, n1, .inl (va_cpy f g x y z)))) H1 → va_D A (ws.set q1 (a, .inl (c1, n1, .inl (va_cpy f g x y z)))) → va_S A H0 H1 locs1 → W p l e R s m args below meth c H1 locs1 cells slots Q (F0 m (pc + 3) ls rest)) : W p l e R s m args below meth c H locs cells slots Q (F0 m pc ls (.int (nI z) :: .int (nI y) :: .ref a :: .int (nI x) :: .ref a0 :: rest)) := by
  have hx : x < 2 ^ 31 := by omega
  have hy : y < 2 ^ 31 := by omega
  have hz : z < 2 ^ 31 := by omega
  refine va_copyi hexec hb hml hown hlink hnat hstat hini hK hP hD hS q0 q1 t0 t1 ha0 ha1 ht0 ht1 rfl (gi_nn hx) (gi_nn hy) (gi_nn hz) (by rw [nI_clamp hx, nI_clamp hz]; exact h4) (by rw [nI_clamp hy, nI_clamp hz]; exact h5) (fun _ _ => rfl) hframes hlocals hdg ?_
  rw [nI_clamp hx, nI_clamp hy, nI_clamp hz]
  exact kk
end GJ
/-- the places q8 .. q8 + m - 1 written one after the other: what each becomes of what it was -/
def upTo (g : Nat → Int64 → Int64) (q8 : Nat) (f : Nat → Int64) : Nat → Nat → Int64
  | 0 => f
  | m + 1 => vp_updL (upTo g q8 f m) (q8 + m) (g m (upTo g q8 f m (q8 + m)))
theorem upTo_out {g : Nat → Int64 → Int64} {q8 : Nat} {f : Nat → Int64} {x : Nat} : ∀ m, (x < q8 ∨ q8 + m ≤ x) → upTo g q8 f m x = f x := by
  intro m
  induction m with
  | zero => intro _; rfl
  | succ m ih =>
    intro h
    show vp_updL (upTo g q8 f m) (q8 + m) _ x = f x
    rw [pk_uLn (by omega)]
    exact ih (by omega)
theorem upTo_at {g : Nat → Int64 → Int64} {q8 : Nat} {f : Nat → Int64} {j : Nat} : ∀ m, j < m → upTo g q8 f m (q8 + j) = g j (f (q8 + j)) := by
  intro m
  induction m with
  | zero => intro h; omega
  | succ m ih =>
    intro h
    show vp_updL (upTo g q8 f m) (q8 + m) _ (q8 + j) = _
    by_cases q : j = m
    · subst q; rw [pk_uLs, upTo_out j (by omega)]
    · rw [pk_uLn (by omega)]; exact ih (by omega)
/-- .. the same for ints -/
def upToI (g : Nat → Int32 → Int32) (q8 : Nat) (f : Nat → Int32) : Nat → Nat → Int32
  | 0 => f
  | m + 1 => upd (upToI g q8 f m) (q8 + m) (g m (upToI g q8 f m (q8 + m)))
theorem upToI_out {g : Nat → Int32 → Int32} {q8 : Nat} {f : Nat → Int32} {x : Nat} : ∀ m, (x < q8 ∨ q8 + m ≤ x) → upToI g q8 f m x = f x := by
  intro m
  induction m with
  | zero => intro _; rfl
  | succ m ih =>
    intro h
    show upd (upToI g q8 f m) (q8 + m) _ x = f x
    rw [pk_un (by omega)]
    exact ih (by omega)
theorem upToI_at {g : Nat → Int32 → Int32} {q8 : Nat} {f : Nat → Int32} {j : Nat} : ∀ m, j < m → upToI g q8 f m (q8 + j) = g j (f (q8 + j)) := by
  intro m
  induction m with
  | zero => intro h; omega
  | succ m ih =>
    intro h
    show upd (upToI g q8 f m) (q8 + m) _ (q8 + j) = _
    by_cases q : j = m
    · subst q; rw [pk_us, upToI_out j (by omega)]
    · rw [pk_un (by omega)]; exact ih (by omega)
/-- the slots with one put in at a place -/
def insL (sl : Nat → Int32) (pl am : Nat) (v : Int32) : Nat → Int32 := fun q => if q < pl then sl q else if q = pl then v else if q ≤ am then sl (q - 1) else sl q
theorem insL_is {sl : Nat → Int32} {pl am : Nat} {v : Int32} (h : pl ≤ am) : upd (va_cpy sl sl pl (pl + 1) (am - pl)) pl v = insL sl pl am v := by
  funext q
  unfold upd va_cpy insL
  by_cases h1 : q = pl
  · subst h1; simp
  · by_cases h2 : q < pl
    · have h3 : ¬ (pl + 1 ≤ q ∧ q < pl + 1 + (am - pl)) := by omega
      simp [h1, h2, h3]
    · by_cases h4 : q ≤ am
      · have h3 : pl + 1 ≤ q ∧ q < pl + 1 + (am - pl) := by omega
        have h5 : pl + (q - (pl + 1)) = q - 1 := by omega
        simp [h1, h2, h3, h4, h5]
      · have h3 : ¬ (pl + 1 ≤ q ∧ q < pl + 1 + (am - pl)) := by omega
        simp [h1, h2, h3, h4]
end
section
set_option maxHeartbeats 4000000 in
set_option maxRecDepth 100000 in
/-- insertSlot: the slot comes in at the place -/
theorem c_insertSlot (l : Launch) (dC : Nat → ClassId) (dI : Nat → Nat → Nat) (a : Nat → Nat) (k : Nat → ClassId) (w ms n : Int32) (fk : Nat → Int32) (fa : Nat → Int64) (sl ks : Nat → Int32) (ct sm le gr : Nat → Int64) (v : Int32) (pl am : Nat) (h1 : pl ≤ am) (h2 : am < 1000) (sz : Nat)  : Met l yX_insertSlot (Cond.code yX_insertSlot bX_insertSlot 4 none :: wAll) { frames := 1, cells := 0, slots := 0, locals := 64 } (va_Pc [.ref (a 0), .int v, .int (nI pl), .int (nI am)] (fun U => U.heap.size = sz ∧ va_P (dC, dI) classes (wX a k w ms n fk fa sl ks ct sm le gr) U.heap ∧ va_K (dC, dI) classes (kX k) U ∧ va_D (fun _ => True) (wX a k w ms n fk fa sl ks ct sm le gr))) (va_Qv (fun _ : Unit => True) (fun (_ : Unit) (t9 : State) => va_P (dC, dI) classes (wX a k w ms n fk fa (insL sl pl am v) ks ct sm le gr) t9.heap ∧ va_K (dC, dI) classes (kX k) t9 ∧ va_D (va_A (wX a k w ms n fk fa sl ks ct sm le gr) sz) (wX a k w ms n fk fa (insL sl pl am v) ks ct sm le gr)) (va_A (wX a k w ms n fk fa sl ks ct sm le gr) sz)) 0 0 (va_A (wX a k w ms n fk fa sl ks ct sm le gr) sz) := by
  refine Met.ofW (cc := bX_insertSlot) (maxL := 4) (ret := none) (by decide) rfl ?_
  intro p e s m args below meth c s₁ B hml hv
  obtain ⟨rfl, hsz, hP, hK, hD0⟩ := hv
  have hx := B.exec
  have hb := B.bytes
  have hr := B.returns
  have hta : ∀ w ∈ wAll, w.before ([.ref (a 0), .int v, .int (nI pl), .int (nI am)] : List Value).toArray s = true := fun w h => atoms_spec (ws := (Cond.code yX_insertSlot bX_insertSlot 4 none :: wAll)) B.pre w (List.mem_cons_of_mem _ h)
  have hown : s.vm.findClass "GroupRows" = some m.cls := findClass_of_methodNamed B.named
  have hlocks := B.notSynchronized
  subst hsz
  have hD := hD0.self (sz := s.heap.size)
  generalize hAe : va_A (wX a k w ms n fk fa sl ks ct sm le gr) s.heap.size = A at hD ⊢
  have hA : ∀ q : Nat, s.heap.size ≤ q → A q := fun q h => by rw [← hAe]; exact Or.inr h
  have hS : va_S A s.heap s.heap [] := va_S.rf
  have hP : va_P (dC, dI) classes (wX a k w ms n fk fa sl ks ct sm le gr) s.heap := hP
  have hl := lv_entry ([.ref (a 0), .int v, .int (nI pl), .int (nI am)]) (n := 4) (Nat.le_of_ble_eq_true rfl)
  rw [lg_entry_eq]
  generalize (lg_sl ([.ref (a 0), .int v, .int (nI pl), .int (nI am)]) ++ List.replicate (4 - (lg_sl ([.ref (a 0), .int v, .int (nI pl), .int (nI am)])).length) Slot.unset).toArray = ls at hl ⊢
  have hl : lv_has ls 4 [(0, .ref (a 0)), (1, .int v), (2, .int (nI pl)), (3, .int (nI am))] := hl
  refine lv_aload_n hx hb dX_insertSlot_0 rfl (lv_at hl 0 rfl) ?_
  refine va_get (D := (dC, dI)) (ci := 0) (v := .ref (a 3)) (C := "GroupRows") (T := FX) (N := 11) hx hb hta inX hown hK hP 0 rfl rfl 5 (by decide) (hta _ w24) (fun _ h9 => h9) rfl dX_insertSlot_1 ?_
  refine lv_iload_n hx hb dX_insertSlot_4 rfl (lv_at hl 2 rfl) ?_
  refine lv_aload_n hx hb dX_insertSlot_5 rfl (lv_at hl 0 rfl) ?_
  refine va_get (D := (dC, dI)) (ci := 0) (v := .ref (a 3)) (C := "GroupRows") (T := FX) (N := 11) hx hb hta inX hown hK hP 0 rfl rfl 5 (by decide) (hta _ w24) (fun _ h9 => h9) rfl dX_insertSlot_6 ?_
  refine lv_iload_n hx hb dX_insertSlot_9 rfl (lv_at hl 2 rfl) ?_
  refine lv_iconst (v := 1) hx hb dX_insertSlot_10 (by decide) ?_
  refine lv_iadd hx hb dX_insertSlot_11 ?_
  refine gi_as (y := nI (pl + 1)) (nI_1 _) ?_
  refine lv_iload_n hx hb dX_insertSlot_12 rfl (lv_at hl 3 rfl) ?_
  refine lv_iload_n hx hb dX_insertSlot_13 rfl (lv_at hl 2 rfl) ?_
  refine lv_isub hx hb dX_insertSlot_14 ?_
  refine gi_as (y := nI (am - pl)) (pk_sub h1) ?_
  refine gi_copyi (x := pl) (y := (pl + 1)) (z := (am - pl)) hx hb (hml.trans hl.1.symm) hown (hta _ w204) (hta _ w206) (hta _ w205) (hta _ w9) hK hP hD hS 3 3 2 2 rfl rfl rfl rfl (by omega) (by omega) (by decide) (by decide) (by decide) (by decide +kernel) dX_insertSlot_15 (fun H locs hP hD hS => ?_)
  have hP : va_P (dC, dI) classes (wX a k w ms n fk fa (va_cpy sl sl pl (pl + 1) (am - pl)) ks ct sm le gr) H := hP
  have hD : va_D A (wX a k w ms n fk fa (va_cpy sl sl pl (pl + 1) (am - pl)) ks ct sm le gr) := hD
  refine lv_aload_n hx hb dX_insertSlot_18 rfl (lv_at hl 0 rfl) ?_
  refine va_get (D := (dC, dI)) (ci := 0) (v := .ref (a 3)) (C := "GroupRows") (T := FX) (N := 11) hx hb hta inX hown hK hP 0 rfl rfl 5 (by decide) (hta _ w24) (fun _ h9 => h9) rfl dX_insertSlot_19 ?_
  refine lv_iload_n hx hb dX_insertSlot_22 rfl (lv_at hl 2 rfl) ?_
  refine lv_iload_n hx hb dX_insertSlot_23 rfl (lv_at hl 1 rfl) ?_
  refine gi_iast hx hb hK hP hD hS 3 2 rfl rfl (k := pl) (by omega) (by decide) dX_insertSlot_24 (fun H locs hP hD hS => ?_)
  have hP : va_P (dC, dI) classes (wX a k w ms n fk fa (upd (va_cpy sl sl pl (pl + 1) (am - pl)) pl v) ks ct sm le gr) H := hP
  have hD : va_D A (wX a k w ms n fk fa (upd (va_cpy sl sl pl (pl + 1) (am - pl)) pl v) ks ct sm le gr) := hD
  rw [insL_is h1] at hP hD
  have hP : va_P (dC, dI) classes (wX a k w ms n fk fa (insL sl pl am v) ks ct sm le gr) H := hP
  have hD : va_D A (wX a k w ms n fk fa (insL sl pl am v) ks ct sm le gr) := hD
  exact W.vret hx hb hr (fun t9 ht9 hW9 => ⟨⟨(), rfl, trivial, by rw [ht9]; exact hP, va_K.moved hW9.alike hK, hD⟩, hS.F ht9⟩) hS.2.2 dX_insertSlot_25
set_option maxHeartbeats 4000000 in
set_option maxRecDepth 100000 in
/-- stepFact -/
theorem c_stepFact (l : Launch) (dC : Nat → ClassId) (dI : Nat → Nat → Nat) (a : Nat → Nat) (k : Nat → ClassId) (mn : Nat) (w n : Int32) (fk : Nat → Int32) (fa : Nat → Int64) (sl ks : Nat → Int32) (ct sm le gr : Nat → Int64) (i : Nat) (st : Int32) (hi : i < 8) (hmn : mn ≤ 8) (sz : Nat)  : Met l yX_stepFact (Cond.code yX_stepFact bX_stepFact 4 none :: wAll) rm0 (va_Pc [.ref (a 0), .int (nI i), .int st] (fun U => U.heap.size = sz ∧ va_P (dC, dI) classes (wX a k w (nI mn) n fk fa sl ks ct sm le gr) U.heap ∧ va_K (dC, dI) classes (kX k) U ∧ va_D (fun _ => True) (wX a k w (nI mn) n fk fa sl ks ct sm le gr))) (va_Qv (fun _ : Unit => True) (fun (_ : Unit) (t9 : State) => va_P (dC, dI) classes (wX a k w (nI mn) n (upd fk i (fk i + st)) (upTo (fun _ x => x + st.toInt64) 0 fa mn) sl ks ct sm le gr) t9.heap ∧ va_K (dC, dI) classes (kX k) t9 ∧ va_D (va_A (wX a k w (nI mn) n fk fa sl ks ct sm le gr) sz) (wX a k w (nI mn) n (upd fk i (fk i + st)) (upTo (fun _ x => x + st.toInt64) 0 fa mn) sl ks ct sm le gr)) (va_A (wX a k w (nI mn) n fk fa sl ks ct sm le gr) sz)) 0 0 (va_A (wX a k w (nI mn) n fk fa sl ks ct sm le gr) sz) := by
  refine Met.ofW (cc := bX_stepFact) (maxL := 4) (ret := none) (by decide) rfl ?_
  intro p e s m args below meth c s₁ B hml hv
  obtain ⟨rfl, hsz, hP, hK, hD0⟩ := hv
  have hx := B.exec
  have hb := B.bytes
  have hr := B.returns
  have hta : ∀ w ∈ wAll, w.before ([.ref (a 0), .int (nI i), .int st] : List Value).toArray s = true := fun w h => atoms_spec (ws := (Cond.code yX_stepFact bX_stepFact 4 none :: wAll)) B.pre w (List.mem_cons_of_mem _ h)
  have hown : s.vm.findClass "GroupRows" = some m.cls := findClass_of_methodNamed B.named
  have hlocks := B.notSynchronized
  subst hsz
  have hD := hD0.self (sz := s.heap.size)
  generalize hAe : va_A (wX a k w (nI mn) n fk fa sl ks ct sm le gr) s.heap.size = A at hD ⊢
  have hA : ∀ q : Nat, s.heap.size ≤ q → A q := fun q h => by rw [← hAe]; exact Or.inr h
  have hS : va_S A s.heap s.heap [] := va_S.rf
  have hP : va_P (dC, dI) classes (wX a k w (nI mn) n fk fa sl ks ct sm le gr) s.heap := hP
  have hl := lv_entry ([.ref (a 0), .int (nI i), .int st]) (n := 4) (Nat.le_of_ble_eq_true rfl)
  rw [lg_entry_eq]
  generalize (lg_sl ([.ref (a 0), .int (nI i), .int st]) ++ List.replicate (4 - (lg_sl ([.ref (a 0), .int (nI i), .int st])).length) Slot.unset).toArray = ls at hl ⊢
  have hl : lv_has ls 4 [(0, .ref (a 0)), (1, .int (nI i)), (2, .int st)] := hl
  refine lv_aload_n hx hb dX_stepFact_0 rfl (lv_at hl 0 rfl) ?_
  refine va_get (D := (dC, dI)) (ci := 0) (v := .ref (a 1)) (C := "GroupRows") (T := FX) (N := 11) hx hb hta inX hown hK hP 0 rfl rfl 3 (by decide) (hta _ w22) (fun _ h9 => h9) rfl dX_stepFact_1 ?_
  refine lv_iload_n hx hb dX_stepFact_4 rfl (lv_at hl 1 rfl) ?_
  refine lv_dup2_11 hx hb dX_stepFact_5 rfl rfl ?_
  refine gi_iald hx hb hK hP 1 0 rfl rfl (k := i) (by omega) (by decide) dX_stepFact_6 ?_
  refine lv_iload_n hx hb dX_stepFact_7 rfl (lv_at hl 2 rfl) ?_
  refine lv_iadd hx hb dX_stepFact_8 ?_
  refine gi_iast hx hb hK hP hD hS 1 0 rfl rfl (k := i) (by omega) (by decide) dX_stepFact_9 (fun H locs hP hD hS => ?_)
  have hP : va_P (dC, dI) classes (wX a k w (nI mn) n (upd fk i ((fk i) + st)) fa sl ks ct sm le gr) H := hP
  have hD : va_D A (wX a k w (nI mn) n (upd fk i ((fk i) + st)) fa sl ks ct sm le gr) := hD
  refine lv_iconst (v := 0) hx hb dX_stepFact_10 (by decide) ?_
  refine gi_as (y := nI 0) (nI_0.symm) ?_
  refine lv_istore_n (lv' := [(3, .int (nI 0)), (0, .ref (a 0)), (1, .int (nI i)), (2, .int st)]) hx hb dX_stepFact_11 rfl hl (by decide) rfl (fun ls hl => ?_)
  have loop : ∀ (kk j : Nat), j + kk = mn → ∀ (H : Heap) (locs : List Loc), va_P (dC, dI) classes (wX a k w (nI mn) n (upd fk i (fk i + st)) (upTo (fun _ x => x + st.toInt64) 0 fa j) sl ks ct sm le gr) H → va_D A (wX a k w (nI mn) n (upd fk i (fk i + st)) (upTo (fun _ x => x + st.toInt64) 0 fa j) sl ks ct sm le gr) → va_S A s.heap H locs → ∀ (ls : Array Slot), lv_has ls 4 [(3, .int (nI j)), (0, .ref (a 0)), (2, .int st)] → W p l e (headSpec (Cond.code yX_stepFact bX_stepFact 4 none :: wAll) rm0).room s m ([.ref (a 0), .int (nI i), .int st] : List Value).toArray below meth c H locs 0 0 (MQ below (va_Qv (fun _ : Unit => True) (fun (_ : Unit) (t9 : State) => va_P (dC, dI) classes (wX a k w (nI mn) n (upd fk i (fk i + st)) (upTo (fun _ x => x + st.toInt64) 0 fa mn) sl ks ct sm le gr) t9.heap ∧ va_K (dC, dI) classes (kX k) t9 ∧ va_D A (wX a k w (nI mn) n (upd fk i (fk i + st)) (upTo (fun _ x => x + st.toInt64) 0 fa mn) sl ks ct sm le gr)) A) ([.ref (a 0), .int (nI i), .int st] : List Value).toArray s 0 0 A) (F0 m 12 ls []) := by
    intro kk
    induction kk with
    | zero =>
      intro j hj H locs hP hD hS ls hl
      refine lv_iload_n hx hb dX_stepFact_12 rfl (lv_at hl 0 rfl) ?_
      refine lv_aload_n hx hb dX_stepFact_13 rfl (lv_at hl 1 rfl) ?_
      refine va_get (D := (dC, dI)) (ci := 0) (v := .int (nI mn)) (C := "GroupRows") (T := FX) (N := 11) hx hb hta inX hown hK hP 0 rfl rfl 1 (by decide) (hta _ w20) (fun _ h9 => h9) rfl dX_stepFact_14 ?_
      refine lv_icmp_ge (tgt := 37) hx hb dX_stepFact_17 (by decide) (fun h1 => ?_) (fun h1 => ?_)
      · skip
        have hj : mn = j := by omega
        subst hj
        have hP : va_P (dC, dI) classes (wX a k w (nI mn) n (upd fk i (fk i + st)) (upTo (fun _ x => x + st.toInt64) 0 fa mn) sl ks ct sm le gr) H := hP
        have hD : va_D A (wX a k w (nI mn) n (upd fk i (fk i + st)) (upTo (fun _ x => x + st.toInt64) 0 fa mn) sl ks ct sm le gr) := hD
        exact W.vret hx hb hr (fun t9 ht9 hW9 => ⟨⟨(), rfl, trivial, by rw [ht9]; exact hP, va_K.moved hW9.alike hK, hD⟩, hS.F ht9⟩) hS.2.2 dX_stepFact_37
      · skip
        exact absurd (nI_le (by omega) (by omega)) h1
    | succ kk ih =>
      intro j hj H locs hP hD hS ls hl
      refine lv_iload_n hx hb dX_stepFact_12 rfl (lv_at hl 0 rfl) ?_
      refine lv_aload_n hx hb dX_stepFact_13 rfl (lv_at hl 1 rfl) ?_
      refine va_get (D := (dC, dI)) (ci := 0) (v := .int (nI mn)) (C := "GroupRows") (T := FX) (N := 11) hx hb hta inX hown hK hP 0 rfl rfl 1 (by decide) (hta _ w20) (fun _ h9 => h9) rfl dX_stepFact_14 ?_
      refine lv_icmp_ge (tgt := 37) hx hb dX_stepFact_17 (by decide) (fun h1 => ?_) (fun h1 => ?_)
      · skip
        exact absurd h1 (nI_ge (a := j) (by omega) (by omega))
      · skip
        have e0 : j = 0 + j := by omega
        refine lv_aload_n hx hb dX_stepFact_20 rfl (lv_at hl 1 rfl) ?_
        refine va_get (D := (dC, dI)) (ci := 0) (v := .ref (a 2)) (C := "GroupRows") (T := FX) (N := 11) hx hb hta inX hown hK hP 0 rfl rfl 4 (by decide) (hta _ w23) (fun _ h9 => h9) rfl dX_stepFact_21 ?_
        refine lv_iload_n hx hb dX_stepFact_24 rfl (lv_at hl 0 rfl) ?_
        refine gi_as (y := nI (0 + j)) (by rw [← e0]) ?_
        refine lv_dup2_11 hx hb dX_stepFact_25 rfl rfl ?_
        refine gi_lald hx hb hK hP 2 1 rfl rfl (k := (0 + j)) (by omega) (by decide) dX_stepFact_26 ?_
        refine lv_iload_n hx hb dX_stepFact_27 rfl (lv_at hl 2 rfl) ?_
        refine lv_i2l (v := st.toInt64) hx hb dX_stepFact_28 rfl ?_
        refine lv_ladd hx hb dX_stepFact_29 ?_
        refine gi_last hx hb hK hP hD hS 2 1 rfl rfl (k := (0 + j)) (by omega) (by decide) dX_stepFact_30 (fun H locs hP hD hS => ?_)
        have hP : va_P (dC, dI) classes (wX a k w (nI mn) n (upd fk i (fk i + st)) (vp_updL (upTo (fun _ x => x + st.toInt64) 0 fa j) (0 + j) (((upTo (fun _ x => x + st.toInt64) 0 fa j) (0 + j)) + (st.toInt64))) sl ks ct sm le gr) H := hP
        have hD : va_D A (wX a k w (nI mn) n (upd fk i (fk i + st)) (vp_updL (upTo (fun _ x => x + st.toInt64) 0 fa j) (0 + j) (((upTo (fun _ x => x + st.toInt64) 0 fa j) (0 + j)) + (st.toInt64))) sl ks ct sm le gr) := hD
        refine lv_iinc (v := (nI (j + 1))) (lv' := [(3, .int (nI (j + 1))), (0, .ref (a 0)), (2, .int st)]) hx hb dX_stepFact_31 hl (k := 0) rfl (nI_1 _) (by decide) rfl (fun ls hl => ?_)
        refine lv_goto (tgt := 12) hx hb dX_stepFact_34 (by decide) ?_
        have hl := lv_sub hl [0, 1, 2] rfl
        have hl : lv_has ls 4 [(3, .int (nI (j + 1))), (0, .ref (a 0)), (2, .int st)] := hl
        exact ih (j + 1) (by omega) H locs hP hD hS ls hl
  have hl := lv_sub hl [0, 1, 3] rfl
  have hl : lv_has ls 4 [(3, .int (nI 0)), (0, .ref (a 0)), (2, .int st)] := hl
  exact loop mn 0 (by omega) H locs hP hD hS ls hl
set_option maxHeartbeats 4000000 in
set_option maxRecDepth 100000 in
/-- joinFact -/
theorem c_joinFact (l : Launch) (dC : Nat → ClassId) (dI : Nat → Nat → Nat) (a : Nat → Nat) (k : Nat → ClassId) (mn : Nat) (w n : Int32) (fk : Nat → Int32) (fa : Nat → Int64) (sl ks : Nat → Int32) (ct sm le gr : Nat → Int64) (q : Nat) (nn : Int32) (hq : q < 1000) (hmn : mn ≤ 8) (sz : Nat)  : Met l yX_joinFact (Cond.code yX_joinFact bX_joinFact 7 none :: wAll) { frames := 1, cells := 0, slots := 0, locals := 64 } (va_Pc [.ref (a 0), .int (nI q), .int nn] (fun U => U.heap.size = sz ∧ va_P (dC, dI) classes (wX a k w (nI mn) n fk fa sl ks ct sm le gr) U.heap ∧ va_K (dC, dI) classes (kX k) U ∧ va_D (fun _ => True) (wX a k w (nI mn) n fk fa sl ks ct sm le gr))) (va_Qv (fun _ : Unit => True) (fun (_ : Unit) (t9 : State) => va_P (dC, dI) classes (wX a k w (nI mn) n fk fa sl ks (vp_updL ct q (ct q + nn.toInt64)) (upTo (fun m x => x + fa m * nn.toInt64) (8 * q) sm mn) (upTo (fun m x => if fa m < x then fa m else x) (8 * q) le mn) (upTo (fun m x => if fa m < x then x else fa m) (8 * q) gr mn)) t9.heap ∧ va_K (dC, dI) classes (kX k) t9 ∧ va_D (va_A (wX a k w (nI mn) n fk fa sl ks ct sm le gr) sz) (wX a k w (nI mn) n fk fa sl ks (vp_updL ct q (ct q + nn.toInt64)) (upTo (fun m x => x + fa m * nn.toInt64) (8 * q) sm mn) (upTo (fun m x => if fa m < x then fa m else x) (8 * q) le mn) (upTo (fun m x => if fa m < x then x else fa m) (8 * q) gr mn))) (va_A (wX a k w (nI mn) n fk fa sl ks ct sm le gr) sz)) 0 0 (va_A (wX a k w (nI mn) n fk fa sl ks ct sm le gr) sz) := by
  refine Met.ofW (cc := bX_joinFact) (maxL := 7) (ret := none) (by decide) rfl ?_
  intro p e s m args below meth c s₁ B hml hv
  obtain ⟨rfl, hsz, hP, hK, hD0⟩ := hv
  have hx := B.exec
  have hb := B.bytes
  have hr := B.returns
  have hta : ∀ w ∈ wAll, w.before ([.ref (a 0), .int (nI q), .int nn] : List Value).toArray s = true := fun w h => atoms_spec (ws := (Cond.code yX_joinFact bX_joinFact 7 none :: wAll)) B.pre w (List.mem_cons_of_mem _ h)
  have hown : s.vm.findClass "GroupRows" = some m.cls := findClass_of_methodNamed B.named
  have hlocks := B.notSynchronized
  subst hsz
  have hD := hD0.self (sz := s.heap.size)
  generalize hAe : va_A (wX a k w (nI mn) n fk fa sl ks ct sm le gr) s.heap.size = A at hD ⊢
  have hA : ∀ q : Nat, s.heap.size ≤ q → A q := fun q h => by rw [← hAe]; exact Or.inr h
  have hS : va_S A s.heap s.heap [] := va_S.rf
  have hP : va_P (dC, dI) classes (wX a k w (nI mn) n fk fa sl ks ct sm le gr) s.heap := hP
  have hl := lv_entry ([.ref (a 0), .int (nI q), .int nn]) (n := 7) (Nat.le_of_ble_eq_true rfl)
  rw [lg_entry_eq]
  generalize (lg_sl ([.ref (a 0), .int (nI q), .int nn]) ++ List.replicate (7 - (lg_sl ([.ref (a 0), .int (nI q), .int nn])).length) Slot.unset).toArray = ls at hl ⊢
  have hl : lv_has ls 7 [(0, .ref (a 0)), (1, .int (nI q)), (2, .int nn)] := hl
  refine lv_aload_n hx hb dX_joinFact_0 rfl (lv_at hl 0 rfl) ?_
  refine va_get (D := (dC, dI)) (ci := 0) (v := .ref (a 5)) (C := "GroupRows") (T := FX) (N := 11) hx hb hta inX hown hK hP 0 rfl rfl 7 (by decide) (hta _ w26) (fun _ h9 => h9) rfl dX_joinFact_1 ?_
  refine lv_iload_n hx hb dX_joinFact_4 rfl (lv_at hl 1 rfl) ?_
  refine lv_dup2_11 hx hb dX_joinFact_5 rfl rfl ?_
  refine gi_lald hx hb hK hP 5 4 rfl rfl (k := q) (by omega) (by decide) dX_joinFact_6 ?_
  refine lv_iload_n hx hb dX_joinFact_7 rfl (lv_at hl 2 rfl) ?_
  refine lv_i2l (v := nn.toInt64) hx hb dX_joinFact_8 rfl ?_
  refine lv_ladd hx hb dX_joinFact_9 ?_
  refine gi_last hx hb hK hP hD hS 5 4 rfl rfl (k := q) (by omega) (by decide) dX_joinFact_10 (fun H locs hP hD hS => ?_)
  have hP : va_P (dC, dI) classes (wX a k w (nI mn) n fk fa sl ks (vp_updL ct q ((ct q) + (nn.toInt64))) sm le gr) H := hP
  have hD : va_D A (wX a k w (nI mn) n fk fa sl ks (vp_updL ct q ((ct q) + (nn.toInt64))) sm le gr) := hD
  refine lv_iload_n hx hb dX_joinFact_11 rfl (lv_at hl 1 rfl) ?_
  refine lv_bipush (v := 8) hx hb dX_joinFact_12 (by decide) ?_
  refine lv_imul hx hb dX_joinFact_14 ?_
  refine gi_as (y := nI (8 * q)) (gi_mul8 _) ?_
  refine lv_istore_n (lv' := [(3, .int (nI (8 * q))), (0, .ref (a 0)), (1, .int (nI q)), (2, .int nn)]) hx hb dX_joinFact_15 rfl hl (by decide) rfl (fun ls hl => ?_)
  refine lv_iconst (v := 0) hx hb dX_joinFact_16 (by decide) ?_
  refine gi_as (y := nI 0) (nI_0.symm) ?_
  refine lv_istore (lv' := [(4, .int (nI 0)), (3, .int (nI (8 * q))), (0, .ref (a 0)), (1, .int (nI q)), (2, .int nn)]) hx hb dX_joinFact_17 hl (by decide) rfl (fun ls hl => ?_)
  have loop : ∀ (kk j : Nat), j + kk = mn → ∀ (H : Heap) (locs : List Loc), va_P (dC, dI) classes (wX a k w (nI mn) n fk fa sl ks (vp_updL ct q (ct q + nn.toInt64)) (upTo (fun m x => x + fa m * nn.toInt64) (8 * q) sm j) (upTo (fun m x => if fa m < x then fa m else x) (8 * q) le j) (upTo (fun m x => if fa m < x then x else fa m) (8 * q) gr j)) H → va_D A (wX a k w (nI mn) n fk fa sl ks (vp_updL ct q (ct q + nn.toInt64)) (upTo (fun m x => x + fa m * nn.toInt64) (8 * q) sm j) (upTo (fun m x => if fa m < x then fa m else x) (8 * q) le j) (upTo (fun m x => if fa m < x then x else fa m) (8 * q) gr j)) → va_S A s.heap H locs → ∀ (ls : Array Slot), lv_has ls 7 [(4, .int (nI j)), (3, .int (nI (8 * q))), (0, .ref (a 0)), (2, .int nn)] → W p l e (headSpec (Cond.code yX_joinFact bX_joinFact 7 none :: wAll) { frames := 1, cells := 0, slots := 0, locals := 64 }).room s m ([.ref (a 0), .int (nI q), .int nn] : List Value).toArray below meth c H locs 0 0 (MQ below (va_Qv (fun _ : Unit => True) (fun (_ : Unit) (t9 : State) => va_P (dC, dI) classes (wX a k w (nI mn) n fk fa sl ks (vp_updL ct q (ct q + nn.toInt64)) (upTo (fun m x => x + fa m * nn.toInt64) (8 * q) sm mn) (upTo (fun m x => if fa m < x then fa m else x) (8 * q) le mn) (upTo (fun m x => if fa m < x then x else fa m) (8 * q) gr mn)) t9.heap ∧ va_K (dC, dI) classes (kX k) t9 ∧ va_D A (wX a k w (nI mn) n fk fa sl ks (vp_updL ct q (ct q + nn.toInt64)) (upTo (fun m x => x + fa m * nn.toInt64) (8 * q) sm mn) (upTo (fun m x => if fa m < x then fa m else x) (8 * q) le mn) (upTo (fun m x => if fa m < x then x else fa m) (8 * q) gr mn))) A) ([.ref (a 0), .int (nI q), .int nn] : List Value).toArray s 0 0 A) (F0 m 19 ls []) := by
    intro kk
    induction kk with
    | zero =>
      intro j hj H locs hP hD hS ls hl
      refine lv_iload hx hb dX_joinFact_19 (lv_at hl 0 rfl) ?_
      refine lv_aload_n hx hb dX_joinFact_21 rfl (lv_at hl 2 rfl) ?_
      refine va_get (D := (dC, dI)) (ci := 0) (v := .int (nI mn)) (C := "GroupRows") (T := FX) (N := 11) hx hb hta inX hown hK hP 0 rfl rfl 1 (by decide) (hta _ w20) (fun _ h9 => h9) rfl dX_joinFact_22 ?_
      refine lv_icmp_ge (tgt := 106) hx hb dX_joinFact_25 (by decide) (fun h1 => ?_) (fun h1 => ?_)
      · skip
        have hj : mn = j := by omega
        subst hj
        have hP : va_P (dC, dI) classes (wX a k w (nI mn) n fk fa sl ks (vp_updL ct q (ct q + nn.toInt64)) (upTo (fun m x => x + fa m * nn.toInt64) (8 * q) sm mn) (upTo (fun m x => if fa m < x then fa m else x) (8 * q) le mn) (upTo (fun m x => if fa m < x then x else fa m) (8 * q) gr mn)) H := hP
        have hD : va_D A (wX a k w (nI mn) n fk fa sl ks (vp_updL ct q (ct q + nn.toInt64)) (upTo (fun m x => x + fa m * nn.toInt64) (8 * q) sm mn) (upTo (fun m x => if fa m < x then fa m else x) (8 * q) le mn) (upTo (fun m x => if fa m < x then x else fa m) (8 * q) gr mn)) := hD
        exact W.vret hx hb hr (fun t9 ht9 hW9 => ⟨⟨(), rfl, trivial, by rw [ht9]; exact hP, va_K.moved hW9.alike hK, hD⟩, hS.F ht9⟩) hS.2.2 dX_joinFact_106
      · skip
        exact absurd (nI_le (by omega) (by omega)) h1
    | succ kk ih =>
      intro j hj H locs hP hD hS ls hl
      refine lv_iload hx hb dX_joinFact_19 (lv_at hl 0 rfl) ?_
      refine lv_aload_n hx hb dX_joinFact_21 rfl (lv_at hl 2 rfl) ?_
      refine va_get (D := (dC, dI)) (ci := 0) (v := .int (nI mn)) (C := "GroupRows") (T := FX) (N := 11) hx hb hta inX hown hK hP 0 rfl rfl 1 (by decide) (hta _ w20) (fun _ h9 => h9) rfl dX_joinFact_22 ?_
      refine lv_icmp_ge (tgt := 106) hx hb dX_joinFact_25 (by decide) (fun h1 => ?_) (fun h1 => ?_)
      · skip
        exact absurd h1 (nI_ge (a := j) (by omega) (by omega))
      · skip
        refine lv_aload_n hx hb dX_joinFact_28 rfl (lv_at hl 2 rfl) ?_
        refine va_get (D := (dC, dI)) (ci := 0) (v := .ref (a 2)) (C := "GroupRows") (T := FX) (N := 11) hx hb hta inX hown hK hP 0 rfl rfl 4 (by decide) (hta _ w23) (fun _ h9 => h9) rfl dX_joinFact_29 ?_
        refine lv_iload hx hb dX_joinFact_32 (lv_at hl 0 rfl) ?_
        refine gi_lald hx hb hK hP 2 1 rfl rfl (k := j) (by omega) (by decide) dX_joinFact_34 ?_
        refine lv_lstore (lv' := [(5, .long (fa j)), (4, .int (nI j)), (3, .int (nI (8 * q))), (0, .ref (a 0)), (2, .int nn)]) hx hb dX_joinFact_35 hl (by decide) rfl (fun ls hl => ?_)
        refine lv_aload_n hx hb dX_joinFact_37 rfl (lv_at hl 3 rfl) ?_
        refine va_get (D := (dC, dI)) (ci := 0) (v := .ref (a 6)) (C := "GroupRows") (T := FX) (N := 11) hx hb hta inX hown hK hP 0 rfl rfl 8 (by decide) (hta _ w27) (fun _ h9 => h9) rfl dX_joinFact_38 ?_
        refine lv_iload_n hx hb dX_joinFact_41 rfl (lv_at hl 2 rfl) ?_
        refine lv_iload hx hb dX_joinFact_42 (lv_at hl 1 rfl) ?_
        refine lv_iadd hx hb dX_joinFact_44 ?_
        refine gi_as (y := nI ((8 * q) + j)) (nI_add _ _) ?_
        refine lv_dup2_11 hx hb dX_joinFact_45 rfl rfl ?_
        refine gi_lald hx hb hK hP 6 5 rfl rfl (k := ((8 * q) + j)) (by omega) (by decide) dX_joinFact_46 ?_
        refine lv_lload hx hb dX_joinFact_47 (lv_at hl 0 rfl) ?_
        refine lv_iload_n hx hb dX_joinFact_49 rfl (lv_at hl 4 rfl) ?_
        refine lv_i2l (v := nn.toInt64) hx hb dX_joinFact_50 rfl ?_
        refine lv_lmul hx hb dX_joinFact_51 ?_
        refine lv_ladd hx hb dX_joinFact_52 ?_
        refine gi_last hx hb hK hP hD hS 6 5 rfl rfl (k := ((8 * q) + j)) (by omega) (by decide) dX_joinFact_53 (fun H locs hP hD hS => ?_)
        have hP : va_P (dC, dI) classes (wX a k w (nI mn) n fk fa sl ks (vp_updL ct q (ct q + nn.toInt64)) (vp_updL (upTo (fun m x => x + fa m * nn.toInt64) (8 * q) sm j) ((8 * q) + j) (((upTo (fun m x => x + fa m * nn.toInt64) (8 * q) sm j) ((8 * q) + j)) + ((fa j) * (nn.toInt64)))) (upTo (fun m x => if fa m < x then fa m else x) (8 * q) le j) (upTo (fun m x => if fa m < x then x else fa m) (8 * q) gr j)) H := hP
        have hD : va_D A (wX a k w (nI mn) n fk fa sl ks (vp_updL ct q (ct q + nn.toInt64)) (vp_updL (upTo (fun m x => x + fa m * nn.toInt64) (8 * q) sm j) ((8 * q) + j) (((upTo (fun m x => x + fa m * nn.toInt64) (8 * q) sm j) ((8 * q) + j)) + ((fa j) * (nn.toInt64)))) (upTo (fun m x => if fa m < x then fa m else x) (8 * q) le j) (upTo (fun m x => if fa m < x then x else fa m) (8 * q) gr j)) := hD
        refine lv_aload_n hx hb dX_joinFact_54 rfl (lv_at hl 3 rfl) ?_
        refine va_get (D := (dC, dI)) (ci := 0) (v := .ref (a 7)) (C := "GroupRows") (T := FX) (N := 11) hx hb hta inX hown hK hP 0 rfl rfl 9 (by decide) (hta _ w28) (fun _ h9 => h9) rfl dX_joinFact_55 ?_
        refine lv_iload_n hx hb dX_joinFact_58 rfl (lv_at hl 2 rfl) ?_
        refine lv_iload hx hb dX_joinFact_59 (lv_at hl 1 rfl) ?_
        refine lv_iadd hx hb dX_joinFact_61 ?_
        refine gi_as (y := nI ((8 * q) + j)) (nI_add _ _) ?_
        refine lv_aload_n hx hb dX_joinFact_62 rfl (lv_at hl 3 rfl) ?_
        refine va_get (D := (dC, dI)) (ci := 0) (v := .ref (a 7)) (C := "GroupRows") (T := FX) (N := 11) hx hb hta inX hown hK hP 0 rfl rfl 9 (by decide) (hta _ w28) (fun _ h9 => h9) rfl dX_joinFact_63 ?_
        refine lv_iload_n hx hb dX_joinFact_66 rfl (lv_at hl 2 rfl) ?_
        refine lv_iload hx hb dX_joinFact_67 (lv_at hl 1 rfl) ?_
        refine lv_iadd hx hb dX_joinFact_69 ?_
        refine gi_as (y := nI ((8 * q) + j)) (nI_add _ _) ?_
        refine gi_lald hx hb hK hP 7 6 rfl rfl (k := ((8 * q) + j)) (by omega) (by decide) dX_joinFact_70 ?_
        refine lv_lload hx hb dX_joinFact_71 (lv_at hl 0 rfl) ?_
        refine va_mmin_long hx hb (hml.trans hl.1.symm) hown (hta _ w213) (hta _ w214) (hta _ w10) (hta _ w215) (Nat.le_of_ble_eq_true rfl) (Nat.le_of_ble_eq_true rfl) (Nat.le_of_ble_eq_true rfl) (Nat.le_of_ble_eq_true rfl) dX_joinFact_73 ?_
        refine gi_last hx hb hK hP hD hS 7 6 rfl rfl (k := ((8 * q) + j)) (by omega) (by decide) dX_joinFact_76 (fun H locs hP hD hS => ?_)
        have hP : va_P (dC, dI) classes (wX a k w (nI mn) n fk fa sl ks (vp_updL ct q (ct q + nn.toInt64)) (vp_updL (upTo (fun m x => x + fa m * nn.toInt64) (8 * q) sm j) ((8 * q) + j) (((upTo (fun m x => x + fa m * nn.toInt64) (8 * q) sm j) ((8 * q) + j)) + ((fa j) * (nn.toInt64)))) (vp_updL (upTo (fun m x => if fa m < x then fa m else x) (8 * q) le j) ((8 * q) + j) (if (fa j) < ((upTo (fun m x => if fa m < x then fa m else x) (8 * q) le j) ((8 * q) + j)) then (fa j) else ((upTo (fun m x => if fa m < x then fa m else x) (8 * q) le j) ((8 * q) + j)))) (upTo (fun m x => if fa m < x then x else fa m) (8 * q) gr j)) H := hP
        have hD : va_D A (wX a k w (nI mn) n fk fa sl ks (vp_updL ct q (ct q + nn.toInt64)) (vp_updL (upTo (fun m x => x + fa m * nn.toInt64) (8 * q) sm j) ((8 * q) + j) (((upTo (fun m x => x + fa m * nn.toInt64) (8 * q) sm j) ((8 * q) + j)) + ((fa j) * (nn.toInt64)))) (vp_updL (upTo (fun m x => if fa m < x then fa m else x) (8 * q) le j) ((8 * q) + j) (if (fa j) < ((upTo (fun m x => if fa m < x then fa m else x) (8 * q) le j) ((8 * q) + j)) then (fa j) else ((upTo (fun m x => if fa m < x then fa m else x) (8 * q) le j) ((8 * q) + j)))) (upTo (fun m x => if fa m < x then x else fa m) (8 * q) gr j)) := hD
        refine lv_aload_n hx hb dX_joinFact_77 rfl (lv_at hl 3 rfl) ?_
        refine va_get (D := (dC, dI)) (ci := 0) (v := .ref (a 8)) (C := "GroupRows") (T := FX) (N := 11) hx hb hta inX hown hK hP 0 rfl rfl 10 (by decide) (hta _ w29) (fun _ h9 => h9) rfl dX_joinFact_78 ?_
        refine lv_iload_n hx hb dX_joinFact_81 rfl (lv_at hl 2 rfl) ?_
        refine lv_iload hx hb dX_joinFact_82 (lv_at hl 1 rfl) ?_
        refine lv_iadd hx hb dX_joinFact_84 ?_
        refine gi_as (y := nI ((8 * q) + j)) (nI_add _ _) ?_
        refine lv_aload_n hx hb dX_joinFact_85 rfl (lv_at hl 3 rfl) ?_
        refine va_get (D := (dC, dI)) (ci := 0) (v := .ref (a 8)) (C := "GroupRows") (T := FX) (N := 11) hx hb hta inX hown hK hP 0 rfl rfl 10 (by decide) (hta _ w29) (fun _ h9 => h9) rfl dX_joinFact_86 ?_
        refine lv_iload_n hx hb dX_joinFact_89 rfl (lv_at hl 2 rfl) ?_
        refine lv_iload hx hb dX_joinFact_90 (lv_at hl 1 rfl) ?_
        refine lv_iadd hx hb dX_joinFact_92 ?_
        refine gi_as (y := nI ((8 * q) + j)) (nI_add _ _) ?_
        refine gi_lald hx hb hK hP 8 7 rfl rfl (k := ((8 * q) + j)) (by omega) (by decide) dX_joinFact_93 ?_
        refine lv_lload hx hb dX_joinFact_94 (lv_at hl 0 rfl) ?_
        refine va_mmax_long hx hb (hml.trans hl.1.symm) hown (hta _ w216) (hta _ w217) (hta _ w10) (hta _ w218) (Nat.le_of_ble_eq_true rfl) (Nat.le_of_ble_eq_true rfl) (Nat.le_of_ble_eq_true rfl) (Nat.le_of_ble_eq_true rfl) dX_joinFact_96 ?_
        refine gi_last hx hb hK hP hD hS 8 7 rfl rfl (k := ((8 * q) + j)) (by omega) (by decide) dX_joinFact_99 (fun H locs hP hD hS => ?_)
        have hP : va_P (dC, dI) classes (wX a k w (nI mn) n fk fa sl ks (vp_updL ct q (ct q + nn.toInt64)) (vp_updL (upTo (fun m x => x + fa m * nn.toInt64) (8 * q) sm j) ((8 * q) + j) (((upTo (fun m x => x + fa m * nn.toInt64) (8 * q) sm j) ((8 * q) + j)) + ((fa j) * (nn.toInt64)))) (vp_updL (upTo (fun m x => if fa m < x then fa m else x) (8 * q) le j) ((8 * q) + j) (if (fa j) < ((upTo (fun m x => if fa m < x then fa m else x) (8 * q) le j) ((8 * q) + j)) then (fa j) else ((upTo (fun m x => if fa m < x then fa m else x) (8 * q) le j) ((8 * q) + j)))) (vp_updL (upTo (fun m x => if fa m < x then x else fa m) (8 * q) gr j) ((8 * q) + j) (if (fa j) < ((upTo (fun m x => if fa m < x then x else fa m) (8 * q) gr j) ((8 * q) + j)) then ((upTo (fun m x => if fa m < x then x else fa m) (8 * q) gr j) ((8 * q) + j)) else (fa j)))) H := hP
        have hD : va_D A (wX a k w (nI mn) n fk fa sl ks (vp_updL ct q (ct q + nn.toInt64)) (vp_updL (upTo (fun m x => x + fa m * nn.toInt64) (8 * q) sm j) ((8 * q) + j) (((upTo (fun m x => x + fa m * nn.toInt64) (8 * q) sm j) ((8 * q) + j)) + ((fa j) * (nn.toInt64)))) (vp_updL (upTo (fun m x => if fa m < x then fa m else x) (8 * q) le j) ((8 * q) + j) (if (fa j) < ((upTo (fun m x => if fa m < x then fa m else x) (8 * q) le j) ((8 * q) + j)) then (fa j) else ((upTo (fun m x => if fa m < x then fa m else x) (8 * q) le j) ((8 * q) + j)))) (vp_updL (upTo (fun m x => if fa m < x then x else fa m) (8 * q) gr j) ((8 * q) + j) (if (fa j) < ((upTo (fun m x => if fa m < x then x else fa m) (8 * q) gr j) ((8 * q) + j)) then ((upTo (fun m x => if fa m < x then x else fa m) (8 * q) gr j) ((8 * q) + j)) else (fa j)))) := hD
        refine lv_iinc (v := (nI (j + 1))) (lv' := [(4, .int (nI (j + 1))), (5, .long (fa j)), (3, .int (nI (8 * q))), (0, .ref (a 0)), (2, .int nn)]) hx hb dX_joinFact_100 hl (k := 1) rfl (nI_1 _) (by decide) rfl (fun ls hl => ?_)
        refine lv_goto (tgt := 19) hx hb dX_joinFact_103 (by decide) ?_
        have hl := lv_sub hl [0, 2, 3, 4] rfl
        have hl : lv_has ls 7 [(4, .int (nI (j + 1))), (3, .int (nI (8 * q))), (0, .ref (a 0)), (2, .int nn)] := hl
        exact ih (j + 1) (by omega) H locs hP hD hS ls hl
  have hl := lv_sub hl [0, 1, 2, 4] rfl
  have hl : lv_has ls 7 [(4, .int (nI 0)), (3, .int (nI (8 * q))), (0, .ref (a 0)), (2, .int nn)] := hl
  exact loop mn 0 (by omega) H locs hP hD hS ls hl
end
section
set_option maxHeartbeats 4000000 in
set_option maxRecDepth 100000 in
/-- joinRow: the row at slot o joins that at slot q -/
theorem c_joinRow (l : Launch) (dC : Nat → ClassId) (dI : Nat → Nat → Nat) (a : Nat → Nat) (k : Nat → ClassId) (mn : Nat) (w n : Int32) (fk : Nat → Int32) (fa : Nat → Int64) (sl ks : Nat → Int32) (ct sm le gr : Nat → Int64) (q o : Nat) (hq : q < 1000) (ho : o < 1000) (hqo : q ≠ o) (hmn : mn ≤ 8) (sz : Nat)  : Met l yX_joinRow (Cond.code yX_joinRow bX_joinRow 6 none :: wAll) { frames := 1, cells := 0, slots := 0, locals := 64 } (va_Pc [.ref (a 0), .int (nI q), .int (nI o)] (fun U => U.heap.size = sz ∧ va_P (dC, dI) classes (wX a k w (nI mn) n fk fa sl ks ct sm le gr) U.heap ∧ va_K (dC, dI) classes (kX k) U ∧ va_D (fun _ => True) (wX a k w (nI mn) n fk fa sl ks ct sm le gr))) (va_Qv (fun _ : Unit => True) (fun (_ : Unit) (t9 : State) => va_P (dC, dI) classes (wX a k w (nI mn) n fk fa sl ks (vp_updL ct q (ct q + ct o)) (upTo (fun m x => x + sm (8 * o + m)) (8 * q) sm mn) (upTo (fun m x => if le (8 * o + m) < x then le (8 * o + m) else x) (8 * q) le mn) (upTo (fun m x => if gr (8 * o + m) < x then x else gr (8 * o + m)) (8 * q) gr mn)) t9.heap ∧ va_K (dC, dI) classes (kX k) t9 ∧ va_D (va_A (wX a k w (nI mn) n fk fa sl ks ct sm le gr) sz) (wX a k w (nI mn) n fk fa sl ks (vp_updL ct q (ct q + ct o)) (upTo (fun m x => x + sm (8 * o + m)) (8 * q) sm mn) (upTo (fun m x => if le (8 * o + m) < x then le (8 * o + m) else x) (8 * q) le mn) (upTo (fun m x => if gr (8 * o + m) < x then x else gr (8 * o + m)) (8 * q) gr mn))) (va_A (wX a k w (nI mn) n fk fa sl ks ct sm le gr) sz)) 0 0 (va_A (wX a k w (nI mn) n fk fa sl ks ct sm le gr) sz) := by
  refine Met.ofW (cc := bX_joinRow) (maxL := 6) (ret := none) (by decide) rfl ?_
  intro p e s m args below meth c s₁ B hml hv
  obtain ⟨rfl, hsz, hP, hK, hD0⟩ := hv
  have hx := B.exec
  have hb := B.bytes
  have hr := B.returns
  have hta : ∀ w ∈ wAll, w.before ([.ref (a 0), .int (nI q), .int (nI o)] : List Value).toArray s = true := fun w h => atoms_spec (ws := (Cond.code yX_joinRow bX_joinRow 6 none :: wAll)) B.pre w (List.mem_cons_of_mem _ h)
  have hown : s.vm.findClass "GroupRows" = some m.cls := findClass_of_methodNamed B.named
  have hlocks := B.notSynchronized
  subst hsz
  have hD := hD0.self (sz := s.heap.size)
  generalize hAe : va_A (wX a k w (nI mn) n fk fa sl ks ct sm le gr) s.heap.size = A at hD ⊢
  have hA : ∀ q : Nat, s.heap.size ≤ q → A q := fun q h => by rw [← hAe]; exact Or.inr h
  have hS : va_S A s.heap s.heap [] := va_S.rf
  have hP : va_P (dC, dI) classes (wX a k w (nI mn) n fk fa sl ks ct sm le gr) s.heap := hP
  have hl := lv_entry ([.ref (a 0), .int (nI q), .int (nI o)]) (n := 6) (Nat.le_of_ble_eq_true rfl)
  rw [lg_entry_eq]
  generalize (lg_sl ([.ref (a 0), .int (nI q), .int (nI o)]) ++ List.replicate (6 - (lg_sl ([.ref (a 0), .int (nI q), .int (nI o)])).length) Slot.unset).toArray = ls at hl ⊢
  have hl : lv_has ls 6 [(0, .ref (a 0)), (1, .int (nI q)), (2, .int (nI o))] := hl
  refine lv_aload_n hx hb dX_joinRow_0 rfl (lv_at hl 0 rfl) ?_
  refine va_get (D := (dC, dI)) (ci := 0) (v := .ref (a 5)) (C := "GroupRows") (T := FX) (N := 11) hx hb hta inX hown hK hP 0 rfl rfl 7 (by decide) (hta _ w26) (fun _ h9 => h9) rfl dX_joinRow_1 ?_
  refine lv_iload_n hx hb dX_joinRow_4 rfl (lv_at hl 1 rfl) ?_
  refine lv_dup2_11 hx hb dX_joinRow_5 rfl rfl ?_
  refine gi_lald hx hb hK hP 5 4 rfl rfl (k := q) (by omega) (by decide) dX_joinRow_6 ?_
  refine lv_aload_n hx hb dX_joinRow_7 rfl (lv_at hl 0 rfl) ?_
  refine va_get (D := (dC, dI)) (ci := 0) (v := .ref (a 5)) (C := "GroupRows") (T := FX) (N := 11) hx hb hta inX hown hK hP 0 rfl rfl 7 (by decide) (hta _ w26) (fun _ h9 => h9) rfl dX_joinRow_8 ?_
  refine lv_iload_n hx hb dX_joinRow_11 rfl (lv_at hl 2 rfl) ?_
  refine gi_lald hx hb hK hP 5 4 rfl rfl (k := o) (by omega) (by decide) dX_joinRow_12 ?_
  refine lv_ladd hx hb dX_joinRow_13 ?_
  refine gi_last hx hb hK hP hD hS 5 4 rfl rfl (k := q) (by omega) (by decide) dX_joinRow_14 (fun H locs hP hD hS => ?_)
  have hP : va_P (dC, dI) classes (wX a k w (nI mn) n fk fa sl ks (vp_updL ct q ((ct q) + (ct o))) sm le gr) H := hP
  have hD : va_D A (wX a k w (nI mn) n fk fa sl ks (vp_updL ct q ((ct q) + (ct o))) sm le gr) := hD
  refine lv_iload_n hx hb dX_joinRow_15 rfl (lv_at hl 1 rfl) ?_
  refine lv_bipush (v := 8) hx hb dX_joinRow_16 (by decide) ?_
  refine lv_imul hx hb dX_joinRow_18 ?_
  refine gi_as (y := nI (8 * q)) (gi_mul8 _) ?_
  refine lv_istore_n (lv' := [(3, .int (nI (8 * q))), (0, .ref (a 0)), (1, .int (nI q)), (2, .int (nI o))]) hx hb dX_joinRow_19 rfl hl (by decide) rfl (fun ls hl => ?_)
  refine lv_iload_n hx hb dX_joinRow_20 rfl (lv_at hl 3 rfl) ?_
  refine lv_bipush (v := 8) hx hb dX_joinRow_21 (by decide) ?_
  refine lv_imul hx hb dX_joinRow_23 ?_
  refine gi_as (y := nI (8 * o)) (gi_mul8 _) ?_
  refine lv_istore (lv' := [(4, .int (nI (8 * o))), (3, .int (nI (8 * q))), (0, .ref (a 0)), (1, .int (nI q)), (2, .int (nI o))]) hx hb dX_joinRow_24 hl (by decide) rfl (fun ls hl => ?_)
  refine lv_iconst (v := 0) hx hb dX_joinRow_26 (by decide) ?_
  refine gi_as (y := nI 0) (nI_0.symm) ?_
  refine lv_istore (lv' := [(5, .int (nI 0)), (4, .int (nI (8 * o))), (3, .int (nI (8 * q))), (0, .ref (a 0)), (1, .int (nI q)), (2, .int (nI o))]) hx hb dX_joinRow_27 hl (by decide) rfl (fun ls hl => ?_)
  have loop : ∀ (kk j : Nat), j + kk = mn → ∀ (H : Heap) (locs : List Loc), va_P (dC, dI) classes (wX a k w (nI mn) n fk fa sl ks (vp_updL ct q (ct q + ct o)) (upTo (fun m x => x + sm (8 * o + m)) (8 * q) sm j) (upTo (fun m x => if le (8 * o + m) < x then le (8 * o + m) else x) (8 * q) le j) (upTo (fun m x => if gr (8 * o + m) < x then x else gr (8 * o + m)) (8 * q) gr j)) H → va_D A (wX a k w (nI mn) n fk fa sl ks (vp_updL ct q (ct q + ct o)) (upTo (fun m x => x + sm (8 * o + m)) (8 * q) sm j) (upTo (fun m x => if le (8 * o + m) < x then le (8 * o + m) else x) (8 * q) le j) (upTo (fun m x => if gr (8 * o + m) < x then x else gr (8 * o + m)) (8 * q) gr j)) → va_S A s.heap H locs → ∀ (ls : Array Slot), lv_has ls 6 [(5, .int (nI j)), (4, .int (nI (8 * o))), (3, .int (nI (8 * q))), (0, .ref (a 0))] → W p l e (headSpec (Cond.code yX_joinRow bX_joinRow 6 none :: wAll) { frames := 1, cells := 0, slots := 0, locals := 64 }).room s m ([.ref (a 0), .int (nI q), .int (nI o)] : List Value).toArray below meth c H locs 0 0 (MQ below (va_Qv (fun _ : Unit => True) (fun (_ : Unit) (t9 : State) => va_P (dC, dI) classes (wX a k w (nI mn) n fk fa sl ks (vp_updL ct q (ct q + ct o)) (upTo (fun m x => x + sm (8 * o + m)) (8 * q) sm mn) (upTo (fun m x => if le (8 * o + m) < x then le (8 * o + m) else x) (8 * q) le mn) (upTo (fun m x => if gr (8 * o + m) < x then x else gr (8 * o + m)) (8 * q) gr mn)) t9.heap ∧ va_K (dC, dI) classes (kX k) t9 ∧ va_D A (wX a k w (nI mn) n fk fa sl ks (vp_updL ct q (ct q + ct o)) (upTo (fun m x => x + sm (8 * o + m)) (8 * q) sm mn) (upTo (fun m x => if le (8 * o + m) < x then le (8 * o + m) else x) (8 * q) le mn) (upTo (fun m x => if gr (8 * o + m) < x then x else gr (8 * o + m)) (8 * q) gr mn))) A) ([.ref (a 0), .int (nI q), .int (nI o)] : List Value).toArray s 0 0 A) (F0 m 29 ls []) := by
    intro kk
    induction kk with
    | zero =>
      intro j hj H locs hP hD hS ls hl
      refine lv_iload hx hb dX_joinRow_29 (lv_at hl 0 rfl) ?_
      refine lv_aload_n hx hb dX_joinRow_31 rfl (lv_at hl 3 rfl) ?_
      refine va_get (D := (dC, dI)) (ci := 0) (v := .int (nI mn)) (C := "GroupRows") (T := FX) (N := 11) hx hb hta inX hown hK hP 0 rfl rfl 1 (by decide) (hta _ w20) (fun _ h9 => h9) rfl dX_joinRow_32 ?_
      refine lv_icmp_ge (tgt := 128) hx hb dX_joinRow_35 (by decide) (fun h1 => ?_) (fun h1 => ?_)
      · skip
        have hj : mn = j := by omega
        subst hj
        have hP : va_P (dC, dI) classes (wX a k w (nI mn) n fk fa sl ks (vp_updL ct q (ct q + ct o)) (upTo (fun m x => x + sm (8 * o + m)) (8 * q) sm mn) (upTo (fun m x => if le (8 * o + m) < x then le (8 * o + m) else x) (8 * q) le mn) (upTo (fun m x => if gr (8 * o + m) < x then x else gr (8 * o + m)) (8 * q) gr mn)) H := hP
        have hD : va_D A (wX a k w (nI mn) n fk fa sl ks (vp_updL ct q (ct q + ct o)) (upTo (fun m x => x + sm (8 * o + m)) (8 * q) sm mn) (upTo (fun m x => if le (8 * o + m) < x then le (8 * o + m) else x) (8 * q) le mn) (upTo (fun m x => if gr (8 * o + m) < x then x else gr (8 * o + m)) (8 * q) gr mn)) := hD
        exact W.vret hx hb hr (fun t9 ht9 hW9 => ⟨⟨(), rfl, trivial, by rw [ht9]; exact hP, va_K.moved hW9.alike hK, hD⟩, hS.F ht9⟩) hS.2.2 dX_joinRow_128
      · skip
        exact absurd (nI_le (by omega) (by omega)) h1
    | succ kk ih =>
      intro j hj H locs hP hD hS ls hl
      refine lv_iload hx hb dX_joinRow_29 (lv_at hl 0 rfl) ?_
      refine lv_aload_n hx hb dX_joinRow_31 rfl (lv_at hl 3 rfl) ?_
      refine va_get (D := (dC, dI)) (ci := 0) (v := .int (nI mn)) (C := "GroupRows") (T := FX) (N := 11) hx hb hta inX hown hK hP 0 rfl rfl 1 (by decide) (hta _ w20) (fun _ h9 => h9) rfl dX_joinRow_32 ?_
      refine lv_icmp_ge (tgt := 128) hx hb dX_joinRow_35 (by decide) (fun h1 => ?_) (fun h1 => ?_)
      · skip
        exact absurd h1 (nI_ge (a := j) (by omega) (by omega))
      · skip
        refine lv_aload_n hx hb dX_joinRow_38 rfl (lv_at hl 3 rfl) ?_
        refine va_get (D := (dC, dI)) (ci := 0) (v := .ref (a 6)) (C := "GroupRows") (T := FX) (N := 11) hx hb hta inX hown hK hP 0 rfl rfl 8 (by decide) (hta _ w27) (fun _ h9 => h9) rfl dX_joinRow_39 ?_
        refine lv_iload_n hx hb dX_joinRow_42 rfl (lv_at hl 2 rfl) ?_
        refine lv_iload hx hb dX_joinRow_43 (lv_at hl 0 rfl) ?_
        refine lv_iadd hx hb dX_joinRow_45 ?_
        refine gi_as (y := nI ((8 * q) + j)) (nI_add _ _) ?_
        refine lv_dup2_11 hx hb dX_joinRow_46 rfl rfl ?_
        refine gi_lald hx hb hK hP 6 5 rfl rfl (k := ((8 * q) + j)) (by omega) (by decide) dX_joinRow_47 ?_
        refine lv_aload_n hx hb dX_joinRow_48 rfl (lv_at hl 3 rfl) ?_
        refine va_get (D := (dC, dI)) (ci := 0) (v := .ref (a 6)) (C := "GroupRows") (T := FX) (N := 11) hx hb hta inX hown hK hP 0 rfl rfl 8 (by decide) (hta _ w27) (fun _ h9 => h9) rfl dX_joinRow_49 ?_
        refine lv_iload hx hb dX_joinRow_52 (lv_at hl 1 rfl) ?_
        refine lv_iload hx hb dX_joinRow_54 (lv_at hl 0 rfl) ?_
        refine lv_iadd hx hb dX_joinRow_56 ?_
        refine gi_as (y := nI ((8 * o) + j)) (nI_add _ _) ?_
        refine gi_lald hx hb hK hP 6 5 rfl rfl (k := ((8 * o) + j)) (by omega) (by decide) dX_joinRow_57 ?_
        refine gi_asl (y := sm (8 * o + j)) (upTo_out j (by omega)) ?_
        refine lv_ladd hx hb dX_joinRow_58 ?_
        refine gi_last hx hb hK hP hD hS 6 5 rfl rfl (k := ((8 * q) + j)) (by omega) (by decide) dX_joinRow_59 (fun H locs hP hD hS => ?_)
        have hP : va_P (dC, dI) classes (wX a k w (nI mn) n fk fa sl ks (vp_updL ct q (ct q + ct o)) (vp_updL (upTo (fun m x => x + sm (8 * o + m)) (8 * q) sm j) ((8 * q) + j) (((upTo (fun m x => x + sm (8 * o + m)) (8 * q) sm j) ((8 * q) + j)) + (sm (8 * o + j)))) (upTo (fun m x => if le (8 * o + m) < x then le (8 * o + m) else x) (8 * q) le j) (upTo (fun m x => if gr (8 * o + m) < x then x else gr (8 * o + m)) (8 * q) gr j)) H := hP
        have hD : va_D A (wX a k w (nI mn) n fk fa sl ks (vp_updL ct q (ct q + ct o)) (vp_updL (upTo (fun m x => x + sm (8 * o + m)) (8 * q) sm j) ((8 * q) + j) (((upTo (fun m x => x + sm (8 * o + m)) (8 * q) sm j) ((8 * q) + j)) + (sm (8 * o + j)))) (upTo (fun m x => if le (8 * o + m) < x then le (8 * o + m) else x) (8 * q) le j) (upTo (fun m x => if gr (8 * o + m) < x then x else gr (8 * o + m)) (8 * q) gr j)) := hD
        refine lv_aload_n hx hb dX_joinRow_60 rfl (lv_at hl 3 rfl) ?_
        refine va_get (D := (dC, dI)) (ci := 0) (v := .ref (a 7)) (C := "GroupRows") (T := FX) (N := 11) hx hb hta inX hown hK hP 0 rfl rfl 9 (by decide) (hta _ w28) (fun _ h9 => h9) rfl dX_joinRow_61 ?_
        refine lv_iload_n hx hb dX_joinRow_64 rfl (lv_at hl 2 rfl) ?_
        refine lv_iload hx hb dX_joinRow_65 (lv_at hl 0 rfl) ?_
        refine lv_iadd hx hb dX_joinRow_67 ?_
        refine gi_as (y := nI ((8 * q) + j)) (nI_add _ _) ?_
        refine lv_aload_n hx hb dX_joinRow_68 rfl (lv_at hl 3 rfl) ?_
        refine va_get (D := (dC, dI)) (ci := 0) (v := .ref (a 7)) (C := "GroupRows") (T := FX) (N := 11) hx hb hta inX hown hK hP 0 rfl rfl 9 (by decide) (hta _ w28) (fun _ h9 => h9) rfl dX_joinRow_69 ?_
        refine lv_iload_n hx hb dX_joinRow_72 rfl (lv_at hl 2 rfl) ?_
        refine lv_iload hx hb dX_joinRow_73 (lv_at hl 0 rfl) ?_
        refine lv_iadd hx hb dX_joinRow_75 ?_
        refine gi_as (y := nI ((8 * q) + j)) (nI_add _ _) ?_
        refine gi_lald hx hb hK hP 7 6 rfl rfl (k := ((8 * q) + j)) (by omega) (by decide) dX_joinRow_76 ?_
        refine lv_aload_n hx hb dX_joinRow_77 rfl (lv_at hl 3 rfl) ?_
        refine va_get (D := (dC, dI)) (ci := 0) (v := .ref (a 7)) (C := "GroupRows") (T := FX) (N := 11) hx hb hta inX hown hK hP 0 rfl rfl 9 (by decide) (hta _ w28) (fun _ h9 => h9) rfl dX_joinRow_78 ?_
        refine lv_iload hx hb dX_joinRow_81 (lv_at hl 1 rfl) ?_
        refine lv_iload hx hb dX_joinRow_83 (lv_at hl 0 rfl) ?_
        refine lv_iadd hx hb dX_joinRow_85 ?_
        refine gi_as (y := nI ((8 * o) + j)) (nI_add _ _) ?_
        refine gi_lald hx hb hK hP 7 6 rfl rfl (k := ((8 * o) + j)) (by omega) (by decide) dX_joinRow_86 ?_
        refine gi_asl (y := le (8 * o + j)) (upTo_out j (by omega)) ?_
        refine va_mmin_long hx hb (hml.trans hl.1.symm) hown (hta _ w213) (hta _ w214) (hta _ w10) (hta _ w215) (Nat.le_of_ble_eq_true rfl) (Nat.le_of_ble_eq_true rfl) (Nat.le_of_ble_eq_true rfl) (Nat.le_of_ble_eq_true rfl) dX_joinRow_87 ?_
        refine gi_last hx hb hK hP hD hS 7 6 rfl rfl (k := ((8 * q) + j)) (by omega) (by decide) dX_joinRow_90 (fun H locs hP hD hS => ?_)
        have hP : va_P (dC, dI) classes (wX a k w (nI mn) n fk fa sl ks (vp_updL ct q (ct q + ct o)) (vp_updL (upTo (fun m x => x + sm (8 * o + m)) (8 * q) sm j) ((8 * q) + j) (((upTo (fun m x => x + sm (8 * o + m)) (8 * q) sm j) ((8 * q) + j)) + (sm (8 * o + j)))) (vp_updL (upTo (fun m x => if le (8 * o + m) < x then le (8 * o + m) else x) (8 * q) le j) ((8 * q) + j) (if (le (8 * o + j)) < ((upTo (fun m x => if le (8 * o + m) < x then le (8 * o + m) else x) (8 * q) le j) ((8 * q) + j)) then (le (8 * o + j)) else ((upTo (fun m x => if le (8 * o + m) < x then le (8 * o + m) else x) (8 * q) le j) ((8 * q) + j)))) (upTo (fun m x => if gr (8 * o + m) < x then x else gr (8 * o + m)) (8 * q) gr j)) H := hP
        have hD : va_D A (wX a k w (nI mn) n fk fa sl ks (vp_updL ct q (ct q + ct o)) (vp_updL (upTo (fun m x => x + sm (8 * o + m)) (8 * q) sm j) ((8 * q) + j) (((upTo (fun m x => x + sm (8 * o + m)) (8 * q) sm j) ((8 * q) + j)) + (sm (8 * o + j)))) (vp_updL (upTo (fun m x => if le (8 * o + m) < x then le (8 * o + m) else x) (8 * q) le j) ((8 * q) + j) (if (le (8 * o + j)) < ((upTo (fun m x => if le (8 * o + m) < x then le (8 * o + m) else x) (8 * q) le j) ((8 * q) + j)) then (le (8 * o + j)) else ((upTo (fun m x => if le (8 * o + m) < x then le (8 * o + m) else x) (8 * q) le j) ((8 * q) + j)))) (upTo (fun m x => if gr (8 * o + m) < x then x else gr (8 * o + m)) (8 * q) gr j)) := hD
        refine lv_aload_n hx hb dX_joinRow_91 rfl (lv_at hl 3 rfl) ?_
        refine va_get (D := (dC, dI)) (ci := 0) (v := .ref (a 8)) (C := "GroupRows") (T := FX) (N := 11) hx hb hta inX hown hK hP 0 rfl rfl 10 (by decide) (hta _ w29) (fun _ h9 => h9) rfl dX_joinRow_92 ?_
        refine lv_iload_n hx hb dX_joinRow_95 rfl (lv_at hl 2 rfl) ?_
        refine lv_iload hx hb dX_joinRow_96 (lv_at hl 0 rfl) ?_
        refine lv_iadd hx hb dX_joinRow_98 ?_
        refine gi_as (y := nI ((8 * q) + j)) (nI_add _ _) ?_
        refine lv_aload_n hx hb dX_joinRow_99 rfl (lv_at hl 3 rfl) ?_
        refine va_get (D := (dC, dI)) (ci := 0) (v := .ref (a 8)) (C := "GroupRows") (T := FX) (N := 11) hx hb hta inX hown hK hP 0 rfl rfl 10 (by decide) (hta _ w29) (fun _ h9 => h9) rfl dX_joinRow_100 ?_
        refine lv_iload_n hx hb dX_joinRow_103 rfl (lv_at hl 2 rfl) ?_
        refine lv_iload hx hb dX_joinRow_104 (lv_at hl 0 rfl) ?_
        refine lv_iadd hx hb dX_joinRow_106 ?_
        refine gi_as (y := nI ((8 * q) + j)) (nI_add _ _) ?_
        refine gi_lald hx hb hK hP 8 7 rfl rfl (k := ((8 * q) + j)) (by omega) (by decide) dX_joinRow_107 ?_
        refine lv_aload_n hx hb dX_joinRow_108 rfl (lv_at hl 3 rfl) ?_
        refine va_get (D := (dC, dI)) (ci := 0) (v := .ref (a 8)) (C := "GroupRows") (T := FX) (N := 11) hx hb hta inX hown hK hP 0 rfl rfl 10 (by decide) (hta _ w29) (fun _ h9 => h9) rfl dX_joinRow_109 ?_
        refine lv_iload hx hb dX_joinRow_112 (lv_at hl 1 rfl) ?_
        refine lv_iload hx hb dX_joinRow_114 (lv_at hl 0 rfl) ?_
        refine lv_iadd hx hb dX_joinRow_116 ?_
        refine gi_as (y := nI ((8 * o) + j)) (nI_add _ _) ?_
        refine gi_lald hx hb hK hP 8 7 rfl rfl (k := ((8 * o) + j)) (by omega) (by decide) dX_joinRow_117 ?_
        refine gi_asl (y := gr (8 * o + j)) (upTo_out j (by omega)) ?_
        refine va_mmax_long hx hb (hml.trans hl.1.symm) hown (hta _ w216) (hta _ w217) (hta _ w10) (hta _ w218) (Nat.le_of_ble_eq_true rfl) (Nat.le_of_ble_eq_true rfl) (Nat.le_of_ble_eq_true rfl) (Nat.le_of_ble_eq_true rfl) dX_joinRow_118 ?_
        refine gi_last hx hb hK hP hD hS 8 7 rfl rfl (k := ((8 * q) + j)) (by omega) (by decide) dX_joinRow_121 (fun H locs hP hD hS => ?_)
        have hP : va_P (dC, dI) classes (wX a k w (nI mn) n fk fa sl ks (vp_updL ct q (ct q + ct o)) (vp_updL (upTo (fun m x => x + sm (8 * o + m)) (8 * q) sm j) ((8 * q) + j) (((upTo (fun m x => x + sm (8 * o + m)) (8 * q) sm j) ((8 * q) + j)) + (sm (8 * o + j)))) (vp_updL (upTo (fun m x => if le (8 * o + m) < x then le (8 * o + m) else x) (8 * q) le j) ((8 * q) + j) (if (le (8 * o + j)) < ((upTo (fun m x => if le (8 * o + m) < x then le (8 * o + m) else x) (8 * q) le j) ((8 * q) + j)) then (le (8 * o + j)) else ((upTo (fun m x => if le (8 * o + m) < x then le (8 * o + m) else x) (8 * q) le j) ((8 * q) + j)))) (vp_updL (upTo (fun m x => if gr (8 * o + m) < x then x else gr (8 * o + m)) (8 * q) gr j) ((8 * q) + j) (if (gr (8 * o + j)) < ((upTo (fun m x => if gr (8 * o + m) < x then x else gr (8 * o + m)) (8 * q) gr j) ((8 * q) + j)) then ((upTo (fun m x => if gr (8 * o + m) < x then x else gr (8 * o + m)) (8 * q) gr j) ((8 * q) + j)) else (gr (8 * o + j))))) H := hP
        have hD : va_D A (wX a k w (nI mn) n fk fa sl ks (vp_updL ct q (ct q + ct o)) (vp_updL (upTo (fun m x => x + sm (8 * o + m)) (8 * q) sm j) ((8 * q) + j) (((upTo (fun m x => x + sm (8 * o + m)) (8 * q) sm j) ((8 * q) + j)) + (sm (8 * o + j)))) (vp_updL (upTo (fun m x => if le (8 * o + m) < x then le (8 * o + m) else x) (8 * q) le j) ((8 * q) + j) (if (le (8 * o + j)) < ((upTo (fun m x => if le (8 * o + m) < x then le (8 * o + m) else x) (8 * q) le j) ((8 * q) + j)) then (le (8 * o + j)) else ((upTo (fun m x => if le (8 * o + m) < x then le (8 * o + m) else x) (8 * q) le j) ((8 * q) + j)))) (vp_updL (upTo (fun m x => if gr (8 * o + m) < x then x else gr (8 * o + m)) (8 * q) gr j) ((8 * q) + j) (if (gr (8 * o + j)) < ((upTo (fun m x => if gr (8 * o + m) < x then x else gr (8 * o + m)) (8 * q) gr j) ((8 * q) + j)) then ((upTo (fun m x => if gr (8 * o + m) < x then x else gr (8 * o + m)) (8 * q) gr j) ((8 * q) + j)) else (gr (8 * o + j))))) := hD
        refine lv_iinc (v := (nI (j + 1))) (lv' := [(5, .int (nI (j + 1))), (4, .int (nI (8 * o))), (3, .int (nI (8 * q))), (0, .ref (a 0))]) hx hb dX_joinRow_122 hl (k := 0) rfl (nI_1 _) (by decide) rfl (fun ls hl => ?_)
        refine lv_goto (tgt := 29) hx hb dX_joinRow_125 (by decide) ?_
        have hl := lv_sub hl [0, 1, 2, 3] rfl
        have hl : lv_has ls 6 [(5, .int (nI (j + 1))), (4, .int (nI (8 * o))), (3, .int (nI (8 * q))), (0, .ref (a 0))] := hl
        exact ih (j + 1) (by omega) H locs hP hD hS ls hl
  have hl := lv_sub hl [0, 1, 2, 3] rfl
  have hl : lv_has ls 6 [(5, .int (nI 0)), (4, .int (nI (8 * o))), (3, .int (nI (8 * q))), (0, .ref (a 0))] := hl
  exact loop mn 0 (by omega) H locs hP hD hS ls hl
set_option maxHeartbeats 4000000 in
set_option maxRecDepth 100000 in
/-- openRow: an empty row at a place -/
theorem c_openRow (l : Launch) (dC : Nat → ClassId) (dI : Nat → Nat → Nat) (a : Nat → Nat) (k : Nat → ClassId) (wn mn nn : Nat) (fk : Nat → Int32) (fa : Nat → Int64) (sl ks : Nat → Int32) (ct sm le gr : Nat → Int64) (pl q : Nat) (hwn : wn ≤ 8) (hmn : mn ≤ 8) (hpl : pl ≤ nn) (hnn : nn < 1000) (hq : q < 1000) (hs : sl nn = nI q) (sz : Nat)  : Met l yX_openRow (Cond.code yX_openRow bX_openRow 5 none :: wAll) { frames := 2, cells := 0, slots := 0, locals := 96 } (va_Pc [.ref (a 0), .int (nI pl)] (fun U => U.heap.size = sz ∧ va_P (dC, dI) classes (wX a k (nI wn) (nI mn) (nI nn) fk fa sl ks ct sm le gr) U.heap ∧ va_K (dC, dI) classes (kX k) U ∧ va_D (fun _ => True) (wX a k (nI wn) (nI mn) (nI nn) fk fa sl ks ct sm le gr))) (va_Qv (fun _ : Unit => True) (fun (_ : Unit) (t9 : State) => va_P (dC, dI) classes (wX a k (nI wn) (nI mn) (nI (nn + 1)) fk fa (insL sl pl nn (nI q)) (va_cpy fk ks 0 (8 * q) wn) (vp_updL ct q 0) (upTo (fun _ _ => 0) (8 * q) sm mn) (upTo (fun _ _ => 9223372036854775807) (8 * q) le mn) (upTo (fun _ _ => (-9223372036854775808)) (8 * q) gr mn)) t9.heap ∧ va_K (dC, dI) classes (kX k) t9 ∧ va_D (va_A (wX a k (nI wn) (nI mn) (nI nn) fk fa sl ks ct sm le gr) sz) (wX a k (nI wn) (nI mn) (nI (nn + 1)) fk fa (insL sl pl nn (nI q)) (va_cpy fk ks 0 (8 * q) wn) (vp_updL ct q 0) (upTo (fun _ _ => 0) (8 * q) sm mn) (upTo (fun _ _ => 9223372036854775807) (8 * q) le mn) (upTo (fun _ _ => (-9223372036854775808)) (8 * q) gr mn))) (va_A (wX a k (nI wn) (nI mn) (nI nn) fk fa sl ks ct sm le gr) sz)) 0 0 (va_A (wX a k (nI wn) (nI mn) (nI nn) fk fa sl ks ct sm le gr) sz) := by
  refine Met.ofW (cc := bX_openRow) (maxL := 5) (ret := none) (by decide) rfl ?_
  intro p e s m args below meth c s₁ B hml hv
  obtain ⟨rfl, hsz, hP, hK, hD0⟩ := hv
  have hx := B.exec
  have hb := B.bytes
  have hr := B.returns
  have hta : ∀ w ∈ wAll, w.before ([.ref (a 0), .int (nI pl)] : List Value).toArray s = true := fun w h => atoms_spec (ws := (Cond.code yX_openRow bX_openRow 5 none :: wAll)) B.pre w (List.mem_cons_of_mem _ h)
  have hown : s.vm.findClass "GroupRows" = some m.cls := findClass_of_methodNamed B.named
  have hlocks := B.notSynchronized
  subst hsz
  have hD := hD0.self (sz := s.heap.size)
  generalize hAe : va_A (wX a k (nI wn) (nI mn) (nI nn) fk fa sl ks ct sm le gr) s.heap.size = A at hD ⊢
  have hA : ∀ q : Nat, s.heap.size ≤ q → A q := fun q h => by rw [← hAe]; exact Or.inr h
  have hS : va_S A s.heap s.heap [] := va_S.rf
  have hP : va_P (dC, dI) classes (wX a k (nI wn) (nI mn) (nI nn) fk fa sl ks ct sm le gr) s.heap := hP
  have hl := lv_entry ([.ref (a 0), .int (nI pl)]) (n := 5) (Nat.le_of_ble_eq_true rfl)
  rw [lg_entry_eq]
  generalize (lg_sl ([.ref (a 0), .int (nI pl)]) ++ List.replicate (5 - (lg_sl ([.ref (a 0), .int (nI pl)])).length) Slot.unset).toArray = ls at hl ⊢
  have hl : lv_has ls 5 [(0, .ref (a 0)), (1, .int (nI pl))] := hl
  refine lv_aload_n hx hb dX_openRow_0 rfl (lv_at hl 0 rfl) ?_
  refine va_get (D := (dC, dI)) (ci := 0) (v := .ref (a 3)) (C := "GroupRows") (T := FX) (N := 11) hx hb hta inX hown hK hP 0 rfl rfl 5 (by decide) (hta _ w24) (fun _ h9 => h9) rfl dX_openRow_1 ?_
  refine lv_aload_n hx hb dX_openRow_4 rfl (lv_at hl 0 rfl) ?_
  refine va_get (D := (dC, dI)) (ci := 0) (v := .int (nI nn)) (C := "GroupRows") (T := FX) (N := 11) hx hb hta inX hown hK hP 0 rfl rfl 2 (by decide) (hta _ w21) (fun _ h9 => h9) rfl dX_openRow_5 ?_
  refine gi_iald hx hb hK hP 3 2 rfl rfl (k := nn) (by omega) (by decide) dX_openRow_8 ?_
  refine gi_as (y := nI q) (hs) ?_
  refine lv_istore_n (lv' := [(2, .int (nI q)), (0, .ref (a 0)), (1, .int (nI pl))]) hx hb dX_openRow_9 rfl hl (by decide) rfl (fun ls hl => ?_)
  refine lv_aload_n hx hb dX_openRow_10 rfl (lv_at hl 1 rfl) ?_
  refine lv_iload_n hx hb dX_openRow_11 rfl (lv_at hl 0 rfl) ?_
  refine lv_iload_n hx hb dX_openRow_12 rfl (lv_at hl 2 rfl) ?_
  refine lv_aload_n hx hb dX_openRow_13 rfl (lv_at hl 1 rfl) ?_
  refine va_get (D := (dC, dI)) (ci := 0) (v := .int (nI nn)) (C := "GroupRows") (T := FX) (N := 11) hx hb hta inX hown hK hP 0 rfl rfl 2 (by decide) (hta _ w21) (fun _ h9 => h9) rfl dX_openRow_14 ?_
  have hPc := hP
  have hDc := hD
  have hKc := hK
  have hFc := va_free (wc := (wX a k (nI wn) (nI mn) (nI nn) fk fa sl ks ct sm le gr)) hD hS hA [0, 1, 2, 3, 4, 5, 6, 7, 8] rfl
  refine va_callv (va_runV (As := [.int (nI q), .int (nI pl), .int (nI nn)]) (rest := []) ⟨hx, hb, hml, hown, hta⟩ (c_insertSlot l dC dI a k (nI wn) (nI mn) (nI nn) fk fa sl ks ct sm le gr (nI q) pl nn hpl hnn s.heap.size) (cwV 3 hta (gV w200 w202 sX_insertSlot w1 w203) rfl rfl rfl (by decide +kernel) ⟨Nat.le_of_ble_eq_true rfl, Nat.le_of_ble_eq_true rfl⟩) ⟨gb_W, va_recv hKc hPc (ci := 0) (q0 := 0) rfl rfl, fun U hU hW => ⟨rfl, by rw [hU], by rw [hU]; exact hPc, va_K.moved hW.alike hKc, hDc.weaken (fun _ _ _ _ => trivial)⟩⟩ rfl rfl hl.1 rfl (lv_room (Nat.le_of_ble_eq_true rfl)) dX_openRow_17 ⟨Nat.le_of_ble_eq_true rfl, Nat.le_of_ble_eq_true rfl⟩) hS (fun q _ h => hFc q h) hFc (fun u t H1 locs ht hvm hw hB hz1 hk1 hS => ?_)
  obtain ⟨hP1, hK1, hD1⟩ := hB
  rw [ht] at hP1
  obtain ⟨hP, hD⟩ := va_join (wr := []) (w1 := (wX a k (nI wn) (nI mn) (nI nn) fk fa (insL sl pl nn (nI q)) ks ct sm le gr)) hP hD [0, 1, 2, 3, 4, 5, 6, 7, 8] [] rfl rfl (by decide) (by decide) hk1 hFc hP1 hD1
  generalize H1 = H at hP hS ⊢
  have hP : va_P (dC, dI) classes (wX a k (nI wn) (nI mn) (nI nn) fk fa (insL sl pl nn (nI q)) ks ct sm le gr) H := hP
  have hD : va_D A (wX a k (nI wn) (nI mn) (nI nn) fk fa (insL sl pl nn (nI q)) ks ct sm le gr) := hD
  refine lv_aload_n hx hb dX_openRow_20 rfl (lv_at hl 1 rfl) ?_
  refine lv_dup hx hb dX_openRow_21 rfl ?_
  refine va_get (D := (dC, dI)) (ci := 0) (v := .int (nI nn)) (C := "GroupRows") (T := FX) (N := 11) hx hb hta inX hown hK hP 0 rfl rfl 2 (by decide) (hta _ w21) (fun _ h9 => h9) rfl dX_openRow_22 ?_
  refine lv_iconst (v := 1) hx hb dX_openRow_25 (by decide) ?_
  refine lv_iadd hx hb dX_openRow_26 ?_
  refine gi_as (y := nI (nn + 1)) (nI_1 _) ?_
  refine va_put (D := (dC, dI)) (ci := 0) (v := .int (nI (nn + 1))) (ty := .int) (C := "GroupRows") (T := FX) (N := 11) hx hb hta inX tX tXok nX hown hK hP hD hS 0 rfl rfl 2 (by decide) (hta _ w21) (fun _ h9 => h9) rfl (by decide +kernel) rfl rfl (Nat.le_of_ble_eq_true rfl) dX_openRow_27 (fun H locs hP hD hS => ?_)
  have hP : va_P (dC, dI) classes (wX a k (nI wn) (nI mn) (nI (nn + 1)) fk fa (insL sl pl nn (nI q)) ks ct sm le gr) H := hP
  have hD : va_D A (wX a k (nI wn) (nI mn) (nI (nn + 1)) fk fa (insL sl pl nn (nI q)) ks ct sm le gr) := hD
  refine lv_aload_n hx hb dX_openRow_30 rfl (lv_at hl 1 rfl) ?_
  refine va_get (D := (dC, dI)) (ci := 0) (v := .ref (a 1)) (C := "GroupRows") (T := FX) (N := 11) hx hb hta inX hown hK hP 0 rfl rfl 3 (by decide) (hta _ w22) (fun _ h9 => h9) rfl dX_openRow_31 ?_
  refine lv_iconst (v := 0) hx hb dX_openRow_34 (by decide) ?_
  refine gi_as (y := nI 0) (nI_0.symm) ?_
  refine lv_aload_n hx hb dX_openRow_35 rfl (lv_at hl 1 rfl) ?_
  refine va_get (D := (dC, dI)) (ci := 0) (v := .ref (a 4)) (C := "GroupRows") (T := FX) (N := 11) hx hb hta inX hown hK hP 0 rfl rfl 6 (by decide) (hta _ w25) (fun _ h9 => h9) rfl dX_openRow_36 ?_
  refine lv_iload_n hx hb dX_openRow_39 rfl (lv_at hl 0 rfl) ?_
  refine lv_bipush (v := 8) hx hb dX_openRow_40 (by decide) ?_
  refine lv_imul hx hb dX_openRow_42 ?_
  refine gi_as (y := nI (8 * q)) (gi_mul8 _) ?_
  refine lv_aload_n hx hb dX_openRow_43 rfl (lv_at hl 1 rfl) ?_
  refine va_get (D := (dC, dI)) (ci := 0) (v := .int (nI wn)) (C := "GroupRows") (T := FX) (N := 11) hx hb hta inX hown hK hP 0 rfl rfl 0 (by decide) (hta _ w19) (fun _ h9 => h9) rfl dX_openRow_44 ?_
  refine gi_copyi (x := 0) (y := (8 * q)) (z := wn) hx hb (hml.trans hl.1.symm) hown (hta _ w204) (hta _ w206) (hta _ w205) (hta _ w9) hK hP hD hS 1 4 0 3 rfl rfl rfl rfl (by omega) (by omega) (by decide) (by decide) (by decide) (by decide +kernel) dX_openRow_47 (fun H locs hP hD hS => ?_)
  have hP : va_P (dC, dI) classes (wX a k (nI wn) (nI mn) (nI (nn + 1)) fk fa (insL sl pl nn (nI q)) (va_cpy fk ks 0 (8 * q) wn) ct sm le gr) H := hP
  have hD : va_D A (wX a k (nI wn) (nI mn) (nI (nn + 1)) fk fa (insL sl pl nn (nI q)) (va_cpy fk ks 0 (8 * q) wn) ct sm le gr) := hD
  refine lv_aload_n hx hb dX_openRow_50 rfl (lv_at hl 1 rfl) ?_
  refine va_get (D := (dC, dI)) (ci := 0) (v := .ref (a 5)) (C := "GroupRows") (T := FX) (N := 11) hx hb hta inX hown hK hP 0 rfl rfl 7 (by decide) (hta _ w26) (fun _ h9 => h9) rfl dX_openRow_51 ?_
  refine lv_iload_n hx hb dX_openRow_54 rfl (lv_at hl 0 rfl) ?_
  refine lv_lconst (v := 0) hx hb dX_openRow_55 (by decide) ?_
  refine gi_last hx hb hK hP hD hS 5 4 rfl rfl (k := q) (by omega) (by decide) dX_openRow_56 (fun H locs hP hD hS => ?_)
  have hP : va_P (dC, dI) classes (wX a k (nI wn) (nI mn) (nI (nn + 1)) fk fa (insL sl pl nn (nI q)) (va_cpy fk ks 0 (8 * q) wn) (vp_updL ct q 0) sm le gr) H := hP
  have hD : va_D A (wX a k (nI wn) (nI mn) (nI (nn + 1)) fk fa (insL sl pl nn (nI q)) (va_cpy fk ks 0 (8 * q) wn) (vp_updL ct q 0) sm le gr) := hD
  refine lv_iload_n hx hb dX_openRow_57 rfl (lv_at hl 0 rfl) ?_
  refine lv_bipush (v := 8) hx hb dX_openRow_58 (by decide) ?_
  refine lv_imul hx hb dX_openRow_60 ?_
  refine gi_as (y := nI (8 * q)) (gi_mul8 _) ?_
  refine lv_istore_n (lv' := [(3, .int (nI (8 * q))), (2, .int (nI q)), (0, .ref (a 0)), (1, .int (nI pl))]) hx hb dX_openRow_61 rfl hl (by decide) rfl (fun ls hl => ?_)
  refine lv_iconst (v := 0) hx hb dX_openRow_62 (by decide) ?_
  refine gi_as (y := nI 0) (nI_0.symm) ?_
  refine lv_istore (lv' := [(4, .int (nI 0)), (3, .int (nI (8 * q))), (2, .int (nI q)), (0, .ref (a 0)), (1, .int (nI pl))]) hx hb dX_openRow_63 hl (by decide) rfl (fun ls hl => ?_)
  have loop : ∀ (kk j : Nat), j + kk = mn → ∀ (H : Heap) (locs : List Loc), va_P (dC, dI) classes (wX a k (nI wn) (nI mn) (nI (nn + 1)) fk fa (insL sl pl nn (nI q)) (va_cpy fk ks 0 (8 * q) wn) (vp_updL ct q 0) (upTo (fun _ _ => 0) (8 * q) sm j) (upTo (fun _ _ => 9223372036854775807) (8 * q) le j) (upTo (fun _ _ => (-9223372036854775808)) (8 * q) gr j)) H → va_D A (wX a k (nI wn) (nI mn) (nI (nn + 1)) fk fa (insL sl pl nn (nI q)) (va_cpy fk ks 0 (8 * q) wn) (vp_updL ct q 0) (upTo (fun _ _ => 0) (8 * q) sm j) (upTo (fun _ _ => 9223372036854775807) (8 * q) le j) (upTo (fun _ _ => (-9223372036854775808)) (8 * q) gr j)) → va_S A s.heap H locs → ∀ (ls : Array Slot), lv_has ls 5 [(4, .int (nI j)), (3, .int (nI (8 * q))), (0, .ref (a 0))] → W p l e (headSpec (Cond.code yX_openRow bX_openRow 5 none :: wAll) { frames := 2, cells := 0, slots := 0, locals := 96 }).room s m ([.ref (a 0), .int (nI pl)] : List Value).toArray below meth c H locs 0 0 (MQ below (va_Qv (fun _ : Unit => True) (fun (_ : Unit) (t9 : State) => va_P (dC, dI) classes (wX a k (nI wn) (nI mn) (nI (nn + 1)) fk fa (insL sl pl nn (nI q)) (va_cpy fk ks 0 (8 * q) wn) (vp_updL ct q 0) (upTo (fun _ _ => 0) (8 * q) sm mn) (upTo (fun _ _ => 9223372036854775807) (8 * q) le mn) (upTo (fun _ _ => (-9223372036854775808)) (8 * q) gr mn)) t9.heap ∧ va_K (dC, dI) classes (kX k) t9 ∧ va_D A (wX a k (nI wn) (nI mn) (nI (nn + 1)) fk fa (insL sl pl nn (nI q)) (va_cpy fk ks 0 (8 * q) wn) (vp_updL ct q 0) (upTo (fun _ _ => 0) (8 * q) sm mn) (upTo (fun _ _ => 9223372036854775807) (8 * q) le mn) (upTo (fun _ _ => (-9223372036854775808)) (8 * q) gr mn))) A) ([.ref (a 0), .int (nI pl)] : List Value).toArray s 0 0 A) (F0 m 65 ls []) := by
    intro kk
    induction kk with
    | zero =>
      intro j hj H locs hP hD hS ls hl
      refine lv_iload hx hb dX_openRow_65 (lv_at hl 0 rfl) ?_
      refine lv_aload_n hx hb dX_openRow_67 rfl (lv_at hl 2 rfl) ?_
      refine va_get (D := (dC, dI)) (ci := 0) (v := .int (nI mn)) (C := "GroupRows") (T := FX) (N := 11) hx hb hta inX hown hK hP 0 rfl rfl 1 (by decide) (hta _ w20) (fun _ h9 => h9) rfl dX_openRow_68 ?_
      refine lv_icmp_ge (tgt := 114) hx hb dX_openRow_71 (by decide) (fun h1 => ?_) (fun h1 => ?_)
      · skip
        have hj : mn = j := by omega
        subst hj
        have hP : va_P (dC, dI) classes (wX a k (nI wn) (nI mn) (nI (nn + 1)) fk fa (insL sl pl nn (nI q)) (va_cpy fk ks 0 (8 * q) wn) (vp_updL ct q 0) (upTo (fun _ _ => 0) (8 * q) sm mn) (upTo (fun _ _ => 9223372036854775807) (8 * q) le mn) (upTo (fun _ _ => (-9223372036854775808)) (8 * q) gr mn)) H := hP
        have hD : va_D A (wX a k (nI wn) (nI mn) (nI (nn + 1)) fk fa (insL sl pl nn (nI q)) (va_cpy fk ks 0 (8 * q) wn) (vp_updL ct q 0) (upTo (fun _ _ => 0) (8 * q) sm mn) (upTo (fun _ _ => 9223372036854775807) (8 * q) le mn) (upTo (fun _ _ => (-9223372036854775808)) (8 * q) gr mn)) := hD
        exact W.vret hx hb hr (fun t9 ht9 hW9 => ⟨⟨(), rfl, trivial, by rw [ht9]; exact hP, va_K.moved hW9.alike hK, hD⟩, hS.F ht9⟩) hS.2.2 dX_openRow_114
      · skip
        exact absurd (nI_le (by omega) (by omega)) h1
    | succ kk ih =>
      intro j hj H locs hP hD hS ls hl
      refine lv_iload hx hb dX_openRow_65 (lv_at hl 0 rfl) ?_
      refine lv_aload_n hx hb dX_openRow_67 rfl (lv_at hl 2 rfl) ?_
      refine va_get (D := (dC, dI)) (ci := 0) (v := .int (nI mn)) (C := "GroupRows") (T := FX) (N := 11) hx hb hta inX hown hK hP 0 rfl rfl 1 (by decide) (hta _ w20) (fun _ h9 => h9) rfl dX_openRow_68 ?_
      refine lv_icmp_ge (tgt := 114) hx hb dX_openRow_71 (by decide) (fun h1 => ?_) (fun h1 => ?_)
      · skip
        exact absurd h1 (nI_ge (a := j) (by omega) (by omega))
      · skip
        refine lv_aload_n hx hb dX_openRow_74 rfl (lv_at hl 2 rfl) ?_
        refine va_get (D := (dC, dI)) (ci := 0) (v := .ref (a 6)) (C := "GroupRows") (T := FX) (N := 11) hx hb hta inX hown hK hP 0 rfl rfl 8 (by decide) (hta _ w27) (fun _ h9 => h9) rfl dX_openRow_75 ?_
        refine lv_iload_n hx hb dX_openRow_78 rfl (lv_at hl 1 rfl) ?_
        refine lv_iload hx hb dX_openRow_79 (lv_at hl 0 rfl) ?_
        refine lv_iadd hx hb dX_openRow_81 ?_
        refine gi_as (y := nI ((8 * q) + j)) (nI_add _ _) ?_
        refine lv_lconst (v := 0) hx hb dX_openRow_82 (by decide) ?_
        refine gi_last hx hb hK hP hD hS 6 5 rfl rfl (k := ((8 * q) + j)) (by omega) (by decide) dX_openRow_83 (fun H locs hP hD hS => ?_)
        have hP : va_P (dC, dI) classes (wX a k (nI wn) (nI mn) (nI (nn + 1)) fk fa (insL sl pl nn (nI q)) (va_cpy fk ks 0 (8 * q) wn) (vp_updL ct q 0) (vp_updL (upTo (fun _ _ => 0) (8 * q) sm j) ((8 * q) + j) 0) (upTo (fun _ _ => 9223372036854775807) (8 * q) le j) (upTo (fun _ _ => (-9223372036854775808)) (8 * q) gr j)) H := hP
        have hD : va_D A (wX a k (nI wn) (nI mn) (nI (nn + 1)) fk fa (insL sl pl nn (nI q)) (va_cpy fk ks 0 (8 * q) wn) (vp_updL ct q 0) (vp_updL (upTo (fun _ _ => 0) (8 * q) sm j) ((8 * q) + j) 0) (upTo (fun _ _ => 9223372036854775807) (8 * q) le j) (upTo (fun _ _ => (-9223372036854775808)) (8 * q) gr j)) := hD
        refine lv_aload_n hx hb dX_openRow_84 rfl (lv_at hl 2 rfl) ?_
        refine va_get (D := (dC, dI)) (ci := 0) (v := .ref (a 7)) (C := "GroupRows") (T := FX) (N := 11) hx hb hta inX hown hK hP 0 rfl rfl 9 (by decide) (hta _ w28) (fun _ h9 => h9) rfl dX_openRow_85 ?_
        refine lv_iload_n hx hb dX_openRow_88 rfl (lv_at hl 1 rfl) ?_
        refine lv_iload hx hb dX_openRow_89 (lv_at hl 0 rfl) ?_
        refine lv_iadd hx hb dX_openRow_91 ?_
        refine gi_as (y := nI ((8 * q) + j)) (nI_add _ _) ?_
        refine lv_ldc2 (v := 9223372036854775807) hx hb hown (hta _ w207) dX_openRow_92 ?_
        refine gi_last hx hb hK hP hD hS 7 6 rfl rfl (k := ((8 * q) + j)) (by omega) (by decide) dX_openRow_95 (fun H locs hP hD hS => ?_)
        have hP : va_P (dC, dI) classes (wX a k (nI wn) (nI mn) (nI (nn + 1)) fk fa (insL sl pl nn (nI q)) (va_cpy fk ks 0 (8 * q) wn) (vp_updL ct q 0) (vp_updL (upTo (fun _ _ => 0) (8 * q) sm j) ((8 * q) + j) 0) (vp_updL (upTo (fun _ _ => 9223372036854775807) (8 * q) le j) ((8 * q) + j) 9223372036854775807) (upTo (fun _ _ => (-9223372036854775808)) (8 * q) gr j)) H := hP
        have hD : va_D A (wX a k (nI wn) (nI mn) (nI (nn + 1)) fk fa (insL sl pl nn (nI q)) (va_cpy fk ks 0 (8 * q) wn) (vp_updL ct q 0) (vp_updL (upTo (fun _ _ => 0) (8 * q) sm j) ((8 * q) + j) 0) (vp_updL (upTo (fun _ _ => 9223372036854775807) (8 * q) le j) ((8 * q) + j) 9223372036854775807) (upTo (fun _ _ => (-9223372036854775808)) (8 * q) gr j)) := hD
        refine lv_aload_n hx hb dX_openRow_96 rfl (lv_at hl 2 rfl) ?_
        refine va_get (D := (dC, dI)) (ci := 0) (v := .ref (a 8)) (C := "GroupRows") (T := FX) (N := 11) hx hb hta inX hown hK hP 0 rfl rfl 10 (by decide) (hta _ w29) (fun _ h9 => h9) rfl dX_openRow_97 ?_
        refine lv_iload_n hx hb dX_openRow_100 rfl (lv_at hl 1 rfl) ?_
        refine lv_iload hx hb dX_openRow_101 (lv_at hl 0 rfl) ?_
        refine lv_iadd hx hb dX_openRow_103 ?_
        refine gi_as (y := nI ((8 * q) + j)) (nI_add _ _) ?_
        refine lv_ldc2 (v := (-9223372036854775808)) hx hb hown (hta _ w208) dX_openRow_104 ?_
        refine gi_last hx hb hK hP hD hS 8 7 rfl rfl (k := ((8 * q) + j)) (by omega) (by decide) dX_openRow_107 (fun H locs hP hD hS => ?_)
        have hP : va_P (dC, dI) classes (wX a k (nI wn) (nI mn) (nI (nn + 1)) fk fa (insL sl pl nn (nI q)) (va_cpy fk ks 0 (8 * q) wn) (vp_updL ct q 0) (vp_updL (upTo (fun _ _ => 0) (8 * q) sm j) ((8 * q) + j) 0) (vp_updL (upTo (fun _ _ => 9223372036854775807) (8 * q) le j) ((8 * q) + j) 9223372036854775807) (vp_updL (upTo (fun _ _ => (-9223372036854775808)) (8 * q) gr j) ((8 * q) + j) (-9223372036854775808))) H := hP
        have hD : va_D A (wX a k (nI wn) (nI mn) (nI (nn + 1)) fk fa (insL sl pl nn (nI q)) (va_cpy fk ks 0 (8 * q) wn) (vp_updL ct q 0) (vp_updL (upTo (fun _ _ => 0) (8 * q) sm j) ((8 * q) + j) 0) (vp_updL (upTo (fun _ _ => 9223372036854775807) (8 * q) le j) ((8 * q) + j) 9223372036854775807) (vp_updL (upTo (fun _ _ => (-9223372036854775808)) (8 * q) gr j) ((8 * q) + j) (-9223372036854775808))) := hD
        refine lv_iinc (v := (nI (j + 1))) (lv' := [(4, .int (nI (j + 1))), (3, .int (nI (8 * q))), (0, .ref (a 0))]) hx hb dX_openRow_108 hl (k := 0) rfl (nI_1 _) (by decide) rfl (fun ls hl => ?_)
        refine lv_goto (tgt := 65) hx hb dX_openRow_111 (by decide) ?_
        have hl := lv_sub hl [0, 1, 2] rfl
        have hl : lv_has ls 5 [(4, .int (nI (j + 1))), (3, .int (nI (8 * q))), (0, .ref (a 0))] := hl
        exact ih (j + 1) (by omega) H locs hP hD hS ls hl
  have hl := lv_sub hl [0, 1, 3] rfl
  have hl : lv_has ls 5 [(4, .int (nI 0)), (3, .int (nI (8 * q))), (0, .ref (a 0))] := hl
  exact loop mn 0 (by omega) H locs hP hD hS ls hl
end
section
/-! a fact that comes: what the class's arrays become -/
theorem mx_comm (a x : Int64) : (if a < x then x else a) = if x < a then a else x := by
  rcases lg_tri a x with h | h | h
  · rw [if_pos h, if_neg (lg_lt_not h)]
  · subst h; simp
  · rw [if_neg (lg_lt_not h), if_pos h]
theorem mn_max (a : Int64) : (if a < 9223372036854775807 then a else 9223372036854775807) = a := by
  by_cases h : a < 9223372036854775807
  · rw [if_pos h]
  · rw [if_neg h]
    apply Int64.toInt_inj.mp
    have h1 := a.toInt_lt
    have h2 : ¬ a.toInt < (9223372036854775807 : Int64).toInt := fun q => h (Int64.lt_iff_toInt_lt.mpr q)
    have h3 : (9223372036854775807 : Int64).toInt = 9223372036854775807 := by decide
    omega
theorem mx_min (a : Int64) : (if a < (-9223372036854775808) then (-9223372036854775808) else a) = a := by
  by_cases h : a < (-9223372036854775808)
  · exfalso
    have h1 := a.le_toInt
    have h2 := Int64.lt_iff_toInt_lt.mp h
    have h3 : (-9223372036854775808 : Int64).toInt = -9223372036854775808 := by decide
    omega
  · rw [if_neg h]
theorem isLow_congr {w n : Nat} {K K' : Nat → Nat → Int32} {key : Nat → Int32} {ps : Nat} (h : ∀ j, j < n → keq w (K' j) (K j)) (hl : isLow w n K key ps) : isLow w n K' key ps :=
  ⟨hl.1, fun j hj => klt_congr (keq_symm (h j (by have := hl.1; omega))) (keq_rf _ _) (hl.2.1 j hj), fun j h1 h2 q => hl.2.2 j h1 h2 (klt_congr (h j h2) (keq_rf _ _) q)⟩
theorem fk0 (fk : Nat → Int32) : (fun i => fk (0 + i)) = fk := funext fun i => by rw [Nat.zero_add]
theorem rep_low {σ : Nat → Nat} {w ms : Nat} {T : TB} {ks : Nat → Int32} {ct sm le gr : Nat → Int64} {fk : Nat → Int32} (h : repT σ w ms T ks ct sm le gr) : isLow w T.1 (fun j i => ks (8 * σ j + i)) (fun i => fk (0 + i)) (lowP w T.1 T.2.1 fk) := by
  rw [fk0]
  exact isLow_congr (fun j hj => h.2.1 j hj) (lowP_is h.2.2.2.2)
theorem rep_has {σ : Nat → Nat} {w ms : Nat} {T : TB} {ks : Nat → Int32} {ct sm le gr : Nat → Int64} {fk : Nat → Int32} {ps : Nat} (h : repT σ w ms T ks ct sm le gr) : (ps < T.1 ∧ lx (fun i => ks (8 * σ ps + i)) (fun i => fk (0 + i)) w 0 = 0) ↔ (ps < T.1 ∧ lx (T.2.1 ps) fk w 0 = 0) := by
  rw [fk0, lx_eq, lx_eq]
  exact ⟨fun q => ⟨q.1, keq_trans (keq_symm (h.2.1 ps q.1)) q.2⟩, fun q => ⟨q.1, keq_trans (h.2.1 ps q.1) q.2⟩⟩
theorem rep_takeHit {σ : Nat → Nat} {sl : Nat → Int32} {w mn ps : Nat} {T : TB} {ks : Nat → Int32} {ct sm le gr : Nat → Int64} {fa : Nat → Int64} {nn : Int64} (hσ : perm σ sl) (h : repT σ w mn T ks ct sm le gr) (hp : ps < T.1) :
    repT σ w mn (hitT ps fa nn T) ks (vp_updL ct (σ ps) (ct (σ ps) + nn)) (upTo (fun m x => x + fa m * nn) (8 * σ ps) sm mn) (upTo (fun m x => if fa m < x then fa m else x) (8 * σ ps) le mn) (upTo (fun m x => if fa m < x then x else fa m) (8 * σ ps) gr mn) := by
  have hn := h.1.2.2.2
  have h8 := h.1.2.2.1
  have ne : ∀ p, p < T.1 → p ≠ ps → σ p ≠ σ ps := fun p h1 h2 q => h2 (hσ.2.2 p ps (by omega) (by omega) q)
  refine rep_hit h hp (fun p h1 h2 => pk_uLn (ne p h1 h2)) pk_uLs (fun p m h1 h2 h3 => ?_) (fun m h3 => ⟨upTo_at mn h3, upTo_at mn h3, (upTo_at mn h3).trans (mx_comm _ _)⟩)
  have := ne p h1 h2
  exact ⟨upTo_out mn (by omega), upTo_out mn (by omega), upTo_out mn (by omega)⟩
theorem rep_takeNew {σ : Nat → Nat} {sl : Nat → Int32} {w mn ps : Nat} {T : TB} {ks : Nat → Int32} {ct sm le gr : Nat → Int64} {fk : Nat → Int32} {fa : Nat → Int64} {nn : Int64} (hσ : perm σ sl) (h : repT σ w mn T ks ct sm le gr) (hn : T.1 < 1000) (hl : isLow w T.1 T.2.1 fk ps) (hne : ps < T.1 → ¬ keq w (T.2.1 ps) fk) :
    perm (insS σ ps T.1 T.1) (insL sl ps T.1 (nI (σ T.1))) ∧ repT (insS σ ps T.1 T.1) w mn (newT ps fk fa nn T) (va_cpy fk ks 0 (8 * σ T.1) w) (vp_updL (vp_updL ct (σ T.1) 0) (σ T.1) (vp_updL ct (σ T.1) 0 (σ T.1) + nn)) (upTo (fun m x => x + fa m * nn) (8 * σ T.1) (upTo (fun _ _ => 0) (8 * σ T.1) sm mn) mn) (upTo (fun m x => if fa m < x then fa m else x) (8 * σ T.1) (upTo (fun _ _ => 9223372036854775807) (8 * σ T.1) le mn) mn) (upTo (fun m x => if fa m < x then x else fa m) (8 * σ T.1) (upTo (fun _ _ => (-9223372036854775808)) (8 * σ T.1) gr mn) mn) := by
  have h8 := h.1.2.2.1
  have hw := h.1.1
  have hle := hl.1
  have ne : ∀ p, p < T.1 → σ p ≠ σ T.1 := fun p h1 q => by have := hσ.2.2 p T.1 (by omega) hn q; omega
  refine ⟨perm_ins hσ hle (Nat.le_refl _) hn (fun q hq => ?_), rep_new (x := σ T.1) h hn hl hne (fun p hp => ?_) ne (fun p i h1 h2 => ?_) (fun i h2 => ?_) (fun p h1 => ?_) ?_ (fun p m h1 h2 => ?_) (fun m h2 => ⟨?_, ?_, ?_⟩)⟩
  · unfold insL
    by_cases q1 : q < ps
    · rw [if_pos q1, if_pos q1]
    · rw [if_neg q1, if_neg q1]
      by_cases q2 : q = ps
      · rw [if_pos q2, if_pos q2]; exact (hσ.1 T.1 hn).symm
      · rw [if_neg q2, if_neg q2]
        by_cases q3 : q ≤ T.1
        · rw [if_pos q3, if_pos q3]
        · rw [if_neg q3, if_neg q3, if_neg (by omega)]
  · rcases Nat.lt_trichotomy p ps with q | q | q
    · rw [insS_lt q, insF_lt q]
    · subst q; rw [insS_eq, insF_eq]
    · rw [insS_mid q (by omega), insF_gt q]
  · have := ne p h1
    exact pk_cpy_out (by omega)
  · rw [pk_cpy_in (by omega) (by omega)]
    congr 1
    omega
  · rw [pk_uLn (ne p h1), pk_uLn (ne p h1)]
  · rw [pk_uLs, pk_uLs]; exact Int64.zero_add nn
  · have := ne p h1
    refine ⟨?_, ?_, ?_⟩ <;> rw [upTo_out mn (by omega), upTo_out mn (by omega)]
  · rw [upTo_at mn h2, upTo_at mn h2]; exact Int64.zero_add _
  · rw [upTo_at mn h2, upTo_at mn h2]; exact mn_max _
  · rw [upTo_at mn h2, upTo_at mn h2]; exact mx_min _
/-- the class stands for a table -/
abbrev atX (dC : Nat → ClassId) (dI : Nat → Nat → Nat) (A : Nat → Prop) (a : Nat → Nat) (k : Nat → ClassId) (wn mn : Nat) (fk : Nat → Int32) (fa : Nat → Int64) (T : TB) (t : State) : Prop :=
  ∃ (σ : Nat → Nat) (sl ks : Nat → Int32) (ct sm le gr : Nat → Int64), (perm σ sl ∧ repT σ wn mn T ks ct sm le gr) ∧ va_P (dC, dI) classes (wX a k (nI wn) (nI mn) (nI T.1) fk fa sl ks ct sm le gr) t.heap ∧ va_K (dC, dI) classes (kX k) t ∧ va_D A (wX a k (nI wn) (nI mn) (nI T.1) fk fa sl ks ct sm le gr)
theorem takeT_hit {w : Nat} {fk : Nat → Int32} {fa : Nat → Int64} {nn : Int64} {T : TB} (h : lowP w T.1 T.2.1 fk < T.1 ∧ lx (T.2.1 (lowP w T.1 T.2.1 fk)) fk w 0 = 0) : takeT w fk fa nn T = (hitT (lowP w T.1 T.2.1 fk) fa nn T, true) := by unfold takeT; rw [if_pos h]
theorem takeT_new {w : Nat} {fk : Nat → Int32} {fa : Nat → Int64} {nn : Int64} {T : TB} (h : ¬ (lowP w T.1 T.2.1 fk < T.1 ∧ lx (T.2.1 (lowP w T.1 T.2.1 fk)) fk w 0 = 0)) (hn : T.1 < 1000) : takeT w fk fa nn T = (newT (lowP w T.1 T.2.1 fk) fk fa nn T, true) := by unfold takeT; rw [if_neg h, if_pos hn]
theorem takeT_full {w : Nat} {fk : Nat → Int32} {fa : Nat → Int64} {nn : Int64} {T : TB} (h : ¬ (lowP w T.1 T.2.1 fk < T.1 ∧ lx (T.2.1 (lowP w T.1 T.2.1 fk)) fk w 0 = 0)) (hn : ¬ T.1 < 1000) : takeT w fk fa nn T = (T, false) := by unfold takeT; rw [if_neg h, if_neg hn]
end
section
set_option maxHeartbeats 4000000 in
set_option maxRecDepth 100000 in
/-- takeFact -/
theorem c_takeFact (l : Launch) (dC : Nat → ClassId) (dI : Nat → Nat → Nat) (a : Nat → Nat) (k : Nat → ClassId) (wn mn : Nat) (fk : Nat → Int32) (fa : Nat → Int64) (T : TB) (σ : Nat → Nat) (sl ks : Nat → Int32) (ct sm le gr : Nat → Int64) (hσ : perm σ sl) (hrep : repT σ wn mn T ks ct sm le gr) (nn : Int32) (sz : Nat)  : Met l yX_takeFact (Cond.code yX_takeFact bX_takeFact 3 (some .boolean) :: wAll) { frames := 3, cells := 0, slots := 0, locals := 128 } (va_Pc [.ref (a 0), .int nn] (fun U => U.heap.size = sz ∧ va_P (dC, dI) classes (wX a k (nI wn) (nI mn) (nI T.1) fk fa sl ks ct sm le gr) U.heap ∧ va_K (dC, dI) classes (kX k) U ∧ va_D (fun _ => True) (wX a k (nI wn) (nI mn) (nI T.1) fk fa sl ks ct sm le gr))) (va_Qi (fun (r9 : Int32) (_ : Unit) => r9 = (if (takeT wn fk fa nn.toInt64 T).2 = true then 1 else 0)) (fun (_ : Unit) (t9 : State) => atX dC dI (va_A (wX a k (nI wn) (nI mn) (nI T.1) fk fa sl ks ct sm le gr) sz) a k wn mn fk fa (takeT wn fk fa nn.toInt64 T).1 t9) (va_A (wX a k (nI wn) (nI mn) (nI T.1) fk fa sl ks ct sm le gr) sz)) 0 0 (va_A (wX a k (nI wn) (nI mn) (nI T.1) fk fa sl ks ct sm le gr) sz) := by
  refine Met.ofW (cc := bX_takeFact) (maxL := 3) (ret := (some .boolean)) (by decide) rfl ?_
  intro p e s m args below meth c s₁ B hml hv
  obtain ⟨rfl, hsz, hP, hK, hD0⟩ := hv
  have hx := B.exec
  have hb := B.bytes
  have hr := B.returns
  have hta : ∀ w ∈ wAll, w.before ([.ref (a 0), .int nn] : List Value).toArray s = true := fun w h => atoms_spec (ws := (Cond.code yX_takeFact bX_takeFact 3 (some .boolean) :: wAll)) B.pre w (List.mem_cons_of_mem _ h)
  have hown : s.vm.findClass "GroupRows" = some m.cls := findClass_of_methodNamed B.named
  have hlocks := B.notSynchronized
  subst hsz
  have hD := hD0.self (sz := s.heap.size)
  generalize hAe : va_A (wX a k (nI wn) (nI mn) (nI T.1) fk fa sl ks ct sm le gr) s.heap.size = A at hD ⊢
  have hA : ∀ q : Nat, s.heap.size ≤ q → A q := fun q h => by rw [← hAe]; exact Or.inr h
  have hS : va_S A s.heap s.heap [] := va_S.rf
  have hP : va_P (dC, dI) classes (wX a k (nI wn) (nI mn) (nI T.1) fk fa sl ks ct sm le gr) s.heap := hP
  have hl := lv_entry ([.ref (a 0), .int nn]) (n := 3) (Nat.le_of_ble_eq_true rfl)
  rw [lg_entry_eq]
  generalize (lg_sl ([.ref (a 0), .int nn]) ++ List.replicate (3 - (lg_sl ([.ref (a 0), .int nn])).length) Slot.unset).toArray = ls at hl ⊢
  have hl : lv_has ls 3 [(0, .ref (a 0)), (1, .int nn)] := hl
  obtain ⟨⟨hwn, hmn1, hmn, hn⟩, -⟩ := id hrep
  have hlow := rep_low (fk := fk) hrep
  have hlow2 := lowP_is (key := fk) hrep.2.2.2.2
  obtain ⟨ps, eps⟩ : ∃ ps, ps = lowP wn T.1 T.2.1 fk := ⟨_, rfl⟩
  rw [← eps] at hlow hlow2
  have hps := hlow.1
  refine lv_aload_n hx hb dX_takeFact_0 rfl (lv_at hl 0 rfl) ?_
  refine lv_aload_n hx hb dX_takeFact_1 rfl (lv_at hl 0 rfl) ?_
  refine va_get (D := (dC, dI)) (ci := 0) (v := .ref (a 1)) (C := "GroupRows") (T := FX) (N := 11) hx hb hta inX hown hK hP 0 rfl rfl 3 (by decide) (hta _ w22) (fun _ h9 => h9) rfl dX_takeFact_2 ?_
  refine lv_iconst (v := 0) hx hb dX_takeFact_5 (by decide) ?_
  refine gi_as (y := nI 0) (nI_0.symm) ?_
  refine lv_aload_n hx hb dX_takeFact_6 rfl (lv_at hl 0 rfl) ?_
  refine va_get (D := (dC, dI)) (ci := 0) (v := .int (nI T.1)) (C := "GroupRows") (T := FX) (N := 11) hx hb hta inX hown hK hP 0 rfl rfl 2 (by decide) (hta _ w21) (fun _ h9 => h9) rfl dX_takeFact_7 ?_
  refine gi_callR (v := .int (nI ps)) (W.runV (As := [.ref (a 1), .int (nI 0), .int (nI T.1)]) (rest := []) ⟨hx, hb, hml, hown, hta⟩ (c_lowerPlaceF l dC dI a k wn (nI mn) (nI T.1) fk fa sl ks ct sm le gr σ 0 T.1 ps hwn hσ (by omega) hn hlow) (cwV 3 hta (gV w63 w65 sX_lowerPlace w1 w66) rfl rfl rfl (by decide +kernel) ⟨Nat.le_of_ble_eq_true rfl, Nat.le_of_ble_eq_true rfl⟩) ⟨gb_R, va_recv hK hP (ci := 0) (q0 := 0) rfl rfl, fun U hU hW => ⟨rfl, by rw [hU]; exact hP, va_K.moved hW.alike hK⟩⟩ rfl rfl hl.1 rfl (lv_room (Nat.le_of_ble_eq_true rfl)) dX_takeFact_10 ⟨Nat.le_of_ble_eq_true rfl, Nat.le_of_ble_eq_true rfl⟩) ?_
  refine lv_istore_n (lv' := [(2, .int (nI ps)), (0, .ref (a 0)), (1, .int nn)]) hx hb dX_takeFact_13 rfl hl (by decide) rfl (fun ls hl => ?_)
  refine lv_aload_n hx hb dX_takeFact_14 rfl (lv_at hl 1 rfl) ?_
  refine lv_iload_n hx hb dX_takeFact_15 rfl (lv_at hl 0 rfl) ?_
  refine lv_aload_n hx hb dX_takeFact_16 rfl (lv_at hl 1 rfl) ?_
  refine va_get (D := (dC, dI)) (ci := 0) (v := .ref (a 1)) (C := "GroupRows") (T := FX) (N := 11) hx hb hta inX hown hK hP 0 rfl rfl 3 (by decide) (hta _ w22) (fun _ h9 => h9) rfl dX_takeFact_17 ?_
  refine lv_iconst (v := 0) hx hb dX_takeFact_20 (by decide) ?_
  refine gi_as (y := nI 0) (nI_0.symm) ?_
  refine lv_aload_n hx hb dX_takeFact_21 rfl (lv_at hl 1 rfl) ?_
  refine va_get (D := (dC, dI)) (ci := 0) (v := .int (nI T.1)) (C := "GroupRows") (T := FX) (N := 11) hx hb hta inX hown hK hP 0 rfl rfl 2 (by decide) (hta _ w21) (fun _ h9 => h9) rfl dX_takeFact_22 ?_
  refine gi_callR (v := .int (if ps < T.1 ∧ lx (fun i => ks (8 * σ ps + i)) (fun i => fk (0 + i)) wn 0 = 0 then 1 else 0)) (W.runV (As := [.int (nI ps), .ref (a 1), .int (nI 0), .int (nI T.1)]) (rest := []) ⟨hx, hb, hml, hown, hta⟩ (c_isKeyAtF l dC dI a k wn (nI mn) (nI T.1) fk fa sl ks ct sm le gr σ ps 0 T.1 hwn hσ (by omega) (by omega) hn) (cwV 4 hta (gV w74 w76 sX_isKeyAt w1 w77) rfl rfl rfl (by decide +kernel) ⟨Nat.le_of_ble_eq_true rfl, Nat.le_of_ble_eq_true rfl⟩) ⟨gb_R, va_recv hK hP (ci := 0) (q0 := 0) rfl rfl, fun U hU hW => ⟨rfl, by rw [hU]; exact hP, va_K.moved hW.alike hK⟩⟩ rfl rfl hl.1 rfl (lv_room (Nat.le_of_ble_eq_true rfl)) dX_takeFact_25 ⟨Nat.le_of_ble_eq_true rfl, Nat.le_of_ble_eq_true rfl⟩) ?_
  refine lv_if_ne (tgt := 48) hx hb dX_takeFact_28 (by decide) (fun h1 => ?_) (fun h1 => ?_)
  · skip
    have hc : ps < T.1 ∧ lx (fun i => ks (8 * σ ps + i)) (fun i => fk (0 + i)) wn 0 = 0 := by
      by_cases q : ps < T.1 ∧ lx (fun i => ks (8 * σ ps + i)) (fun i => fk (0 + i)) wn 0 = 0
      · exact q
      · rw [if_neg q] at h1; exact absurd rfl h1
    have hc2 : lowP wn T.1 T.2.1 fk < T.1 ∧ lx (T.2.1 (lowP wn T.1 T.2.1 fk)) fk wn 0 = 0 := by rw [← eps]; exact (rep_has hrep).mp hc
    refine lv_aload_n hx hb dX_takeFact_48 rfl (lv_at hl 1 rfl) ?_
    refine lv_aload_n hx hb dX_takeFact_49 rfl (lv_at hl 1 rfl) ?_
    refine va_get (D := (dC, dI)) (ci := 0) (v := .ref (a 3)) (C := "GroupRows") (T := FX) (N := 11) hx hb hta inX hown hK hP 0 rfl rfl 5 (by decide) (hta _ w24) (fun _ h9 => h9) rfl dX_takeFact_50 ?_
    refine lv_iload_n hx hb dX_takeFact_53 rfl (lv_at hl 0 rfl) ?_
    refine gi_iald hx hb hK hP 3 2 rfl rfl (k := ps) (by omega) (by decide) dX_takeFact_54 ?_
    refine gi_as (y := nI (σ ps)) (hσ.1 ps (by omega)) ?_
    refine lv_iload_n hx hb dX_takeFact_55 rfl (lv_at hl 2 rfl) ?_
    have hPc := hP
    have hDc := hD
    have hKc := hK
    have hFc := va_free (wc := (wX a k (nI wn) (nI mn) (nI T.1) fk fa sl ks ct sm le gr)) hD hS hA [0, 1, 2, 3, 4, 5, 6, 7, 8] rfl
    refine va_callv (va_runV (As := [.int (nI (σ ps)), .int nn]) (rest := []) ⟨hx, hb, hml, hown, hta⟩ (c_joinFact l dC dI a k mn (nI wn) (nI T.1) fk fa sl ks ct sm le gr (σ ps) nn (hσ.2.1 ps (by omega)) hmn s.heap.size) (cwV 2 hta (gV w209 w211 sX_joinFact w1 w212) rfl rfl rfl (by decide +kernel) ⟨Nat.le_of_ble_eq_true rfl, Nat.le_of_ble_eq_true rfl⟩) ⟨gb_W, va_recv hKc hPc (ci := 0) (q0 := 0) rfl rfl, fun U hU hW => ⟨rfl, by rw [hU], by rw [hU]; exact hPc, va_K.moved hW.alike hKc, hDc.weaken (fun _ _ _ _ => trivial)⟩⟩ rfl rfl hl.1 rfl (lv_room (Nat.le_of_ble_eq_true rfl)) dX_takeFact_56 ⟨Nat.le_of_ble_eq_true rfl, Nat.le_of_ble_eq_true rfl⟩) hS (fun q _ h => hFc q h) hFc (fun u t H1 locs ht hvm hw hB hz1 hk1 hS => ?_)
    obtain ⟨hP1, hK1, hD1⟩ := hB
    rw [ht] at hP1
    obtain ⟨hP, hD⟩ := va_join (wr := []) (w1 := (wX a k (nI wn) (nI mn) (nI T.1) fk fa sl ks (vp_updL ct (σ ps) (ct (σ ps) + nn.toInt64)) (upTo (fun m x => x + fa m * nn.toInt64) (8 * (σ ps)) sm mn) (upTo (fun m x => if fa m < x then fa m else x) (8 * (σ ps)) le mn) (upTo (fun m x => if fa m < x then x else fa m) (8 * (σ ps)) gr mn))) hP hD [0, 1, 2, 3, 4, 5, 6, 7, 8] [] rfl rfl (by decide) (by decide) hk1 hFc hP1 hD1
    generalize H1 = H at hP hS ⊢
    have hP : va_P (dC, dI) classes (wX a k (nI wn) (nI mn) (nI T.1) fk fa sl ks (vp_updL ct (σ ps) (ct (σ ps) + nn.toInt64)) (upTo (fun m x => x + fa m * nn.toInt64) (8 * (σ ps)) sm mn) (upTo (fun m x => if fa m < x then fa m else x) (8 * (σ ps)) le mn) (upTo (fun m x => if fa m < x then x else fa m) (8 * (σ ps)) gr mn)) H := hP
    have hD : va_D A (wX a k (nI wn) (nI mn) (nI T.1) fk fa sl ks (vp_updL ct (σ ps) (ct (σ ps) + nn.toInt64)) (upTo (fun m x => x + fa m * nn.toInt64) (8 * (σ ps)) sm mn) (upTo (fun m x => if fa m < x then fa m else x) (8 * (σ ps)) le mn) (upTo (fun m x => if fa m < x then x else fa m) (8 * (σ ps)) gr mn)) := hD
    refine lv_iconst (v := 1) hx hb dX_takeFact_59 (by decide) ?_
    have hn2 := rep_takeHit (fa := fa) (nn := nn.toInt64) hσ hrep hc.1
    have e9 := takeT_hit (fa := fa) (nn := nn.toInt64) hc2
    rw [← eps] at e9
    exact W.zret (v := 1) hx hb hr rfl (fun t9 ht9 hW9 => ⟨⟨1, (), rfl, by rw [e9]; rfl, by rw [e9]; exact ⟨σ, sl, ks, _, _, _, _, ⟨hσ, hn2⟩, by rw [ht9]; exact hP, va_K.moved hW9.alike hK, hD⟩⟩, hS.F ht9⟩) hS.2.2 dX_takeFact_60
  · skip
    have hc : ¬ (ps < T.1 ∧ lx (fun i => ks (8 * σ ps + i)) (fun i => fk (0 + i)) wn 0 = 0) := fun q => by rw [if_pos q] at h1; exact absurd h1 (by decide)
    have hc2 : ¬ (lowP wn T.1 T.2.1 fk < T.1 ∧ lx (T.2.1 (lowP wn T.1 T.2.1 fk)) fk wn 0 = 0) := by rw [← eps]; exact fun q => hc ((rep_has hrep).mpr q)
    refine lv_aload_n hx hb dX_takeFact_31 rfl (lv_at hl 1 rfl) ?_
    refine va_get (D := (dC, dI)) (ci := 0) (v := .int (nI T.1)) (C := "GroupRows") (T := FX) (N := 11) hx hb hta inX hown hK hP 0 rfl rfl 2 (by decide) (hta _ w21) (fun _ h9 => h9) rfl dX_takeFact_32 ?_
    refine lv_sipush (v := 1000) hx hb dX_takeFact_35 (by decide) ?_
    refine lv_icmp_lt (tgt := 43) hx hb dX_takeFact_38 (by decide) (fun h2 => ?_) (fun h2 => ?_)
    · skip
      have h2 : T.1 < 1000 := (nI_ltI (b := 1000) (by omega) (by omega)).mp h2
      refine lv_aload_n hx hb dX_takeFact_43 rfl (lv_at hl 1 rfl) ?_
      refine lv_iload_n hx hb dX_takeFact_44 rfl (lv_at hl 0 rfl) ?_
      have hPc := hP
      have hDc := hD
      have hKc := hK
      have hFc := va_free (wc := (wX a k (nI wn) (nI mn) (nI T.1) fk fa sl ks ct sm le gr)) hD hS hA [0, 1, 2, 3, 4, 5, 6, 7, 8] rfl
      refine va_callv (va_runV (As := [.int (nI ps)]) (rest := []) ⟨hx, hb, hml, hown, hta⟩ (c_openRow l dC dI a k wn mn T.1 fk fa sl ks ct sm le gr ps (σ T.1) hwn hmn hps h2 (hσ.2.1 T.1 h2) (hσ.1 T.1 h2) s.heap.size) (cwV 1 hta (gV w196 w198 sX_openRow w1 w199) rfl rfl rfl (by decide +kernel) ⟨Nat.le_of_ble_eq_true rfl, Nat.le_of_ble_eq_true rfl⟩) ⟨gb_W, va_recv hKc hPc (ci := 0) (q0 := 0) rfl rfl, fun U hU hW => ⟨rfl, by rw [hU], by rw [hU]; exact hPc, va_K.moved hW.alike hKc, hDc.weaken (fun _ _ _ _ => trivial)⟩⟩ rfl rfl hl.1 rfl (lv_room (Nat.le_of_ble_eq_true rfl)) dX_takeFact_45 ⟨Nat.le_of_ble_eq_true rfl, Nat.le_of_ble_eq_true rfl⟩) hS (fun q _ h => hFc q h) hFc (fun u t H1 locs ht hvm hw hB hz1 hk1 hS => ?_)
      obtain ⟨hP1, hK1, hD1⟩ := hB
      rw [ht] at hP1
      obtain ⟨hP, hD⟩ := va_join (wr := []) (w1 := (wX a k (nI wn) (nI mn) (nI (T.1 + 1)) fk fa (insL sl ps T.1 (nI (σ T.1))) (va_cpy fk ks 0 (8 * (σ T.1)) wn) (vp_updL ct (σ T.1) 0) (upTo (fun _ _ => 0) (8 * (σ T.1)) sm mn) (upTo (fun _ _ => 9223372036854775807) (8 * (σ T.1)) le mn) (upTo (fun _ _ => (-9223372036854775808)) (8 * (σ T.1)) gr mn))) hP hD [0, 1, 2, 3, 4, 5, 6, 7, 8] [] rfl rfl (by decide) (by decide) hk1 hFc hP1 hD1
      generalize H1 = H at hP hS ⊢
      have hP : va_P (dC, dI) classes (wX a k (nI wn) (nI mn) (nI (T.1 + 1)) fk fa (insL sl ps T.1 (nI (σ T.1))) (va_cpy fk ks 0 (8 * (σ T.1)) wn) (vp_updL ct (σ T.1) 0) (upTo (fun _ _ => 0) (8 * (σ T.1)) sm mn) (upTo (fun _ _ => 9223372036854775807) (8 * (σ T.1)) le mn) (upTo (fun _ _ => (-9223372036854775808)) (8 * (σ T.1)) gr mn)) H := hP
      have hD : va_D A (wX a k (nI wn) (nI mn) (nI (T.1 + 1)) fk fa (insL sl ps T.1 (nI (σ T.1))) (va_cpy fk ks 0 (8 * (σ T.1)) wn) (vp_updL ct (σ T.1) 0) (upTo (fun _ _ => 0) (8 * (σ T.1)) sm mn) (upTo (fun _ _ => 9223372036854775807) (8 * (σ T.1)) le mn) (upTo (fun _ _ => (-9223372036854775808)) (8 * (σ T.1)) gr mn)) := hD
      refine lv_aload_n hx hb dX_takeFact_48 rfl (lv_at hl 1 rfl) ?_
      refine lv_aload_n hx hb dX_takeFact_49 rfl (lv_at hl 1 rfl) ?_
      refine va_get (D := (dC, dI)) (ci := 0) (v := .ref (a 3)) (C := "GroupRows") (T := FX) (N := 11) hx hb hta inX hown hK hP 0 rfl rfl 5 (by decide) (hta _ w24) (fun _ h9 => h9) rfl dX_takeFact_50 ?_
      refine lv_iload_n hx hb dX_takeFact_53 rfl (lv_at hl 0 rfl) ?_
      refine gi_iald hx hb hK hP 3 2 rfl rfl (k := ps) (by omega) (by decide) dX_takeFact_54 ?_
      refine gi_as (y := nI (σ T.1)) (by simp [insL]) ?_
      refine lv_iload_n hx hb dX_takeFact_55 rfl (lv_at hl 2 rfl) ?_
      have hPc := hP
      have hDc := hD
      have hKc := hK
      have hFc := va_free (wc := (wX a k (nI wn) (nI mn) (nI (T.1 + 1)) fk fa (insL sl ps T.1 (nI (σ T.1))) (va_cpy fk ks 0 (8 * (σ T.1)) wn) (vp_updL ct (σ T.1) 0) (upTo (fun _ _ => 0) (8 * (σ T.1)) sm mn) (upTo (fun _ _ => 9223372036854775807) (8 * (σ T.1)) le mn) (upTo (fun _ _ => (-9223372036854775808)) (8 * (σ T.1)) gr mn))) hD hS hA [0, 1, 2, 3, 4, 5, 6, 7, 8] rfl
      refine va_callv (va_runV (As := [.int (nI (σ T.1)), .int nn]) (rest := []) ⟨hx, hb, hml, hown, hta⟩ (c_joinFact l dC dI a k mn (nI wn) (nI (T.1 + 1)) fk fa (insL sl ps T.1 (nI (σ T.1))) (va_cpy fk ks 0 (8 * (σ T.1)) wn) (vp_updL ct (σ T.1) 0) (upTo (fun _ _ => 0) (8 * (σ T.1)) sm mn) (upTo (fun _ _ => 9223372036854775807) (8 * (σ T.1)) le mn) (upTo (fun _ _ => (-9223372036854775808)) (8 * (σ T.1)) gr mn) (σ T.1) nn (hσ.2.1 T.1 h2) hmn H.size) (cwV 2 hta (gV w209 w211 sX_joinFact w1 w212) rfl rfl rfl (by decide +kernel) ⟨Nat.le_of_ble_eq_true rfl, Nat.le_of_ble_eq_true rfl⟩) ⟨gb_W, va_recv hKc hPc (ci := 0) (q0 := 0) rfl rfl, fun U hU hW => ⟨rfl, by rw [hU], by rw [hU]; exact hPc, va_K.moved hW.alike hKc, hDc.weaken (fun _ _ _ _ => trivial)⟩⟩ rfl rfl hl.1 rfl (lv_room (Nat.le_of_ble_eq_true rfl)) dX_takeFact_56 ⟨Nat.le_of_ble_eq_true rfl, Nat.le_of_ble_eq_true rfl⟩) hS (fun q _ h => hFc q h) hFc (fun u t H1 locs ht hvm hw hB hz1 hk1 hS => ?_)
      obtain ⟨hP1, hK1, hD1⟩ := hB
      rw [ht] at hP1
      obtain ⟨hP, hD⟩ := va_join (wr := []) (w1 := (wX a k (nI wn) (nI mn) (nI (T.1 + 1)) fk fa (insL sl ps T.1 (nI (σ T.1))) (va_cpy fk ks 0 (8 * (σ T.1)) wn) (vp_updL (vp_updL ct (σ T.1) 0) (σ T.1) ((vp_updL ct (σ T.1) 0) (σ T.1) + nn.toInt64)) (upTo (fun m x => x + fa m * nn.toInt64) (8 * (σ T.1)) (upTo (fun _ _ => 0) (8 * (σ T.1)) sm mn) mn) (upTo (fun m x => if fa m < x then fa m else x) (8 * (σ T.1)) (upTo (fun _ _ => 9223372036854775807) (8 * (σ T.1)) le mn) mn) (upTo (fun m x => if fa m < x then x else fa m) (8 * (σ T.1)) (upTo (fun _ _ => (-9223372036854775808)) (8 * (σ T.1)) gr mn) mn))) hP hD [0, 1, 2, 3, 4, 5, 6, 7, 8] [] rfl rfl (by decide) (by decide) hk1 hFc hP1 hD1
      generalize H1 = H at hP hS ⊢
      have hP : va_P (dC, dI) classes (wX a k (nI wn) (nI mn) (nI (T.1 + 1)) fk fa (insL sl ps T.1 (nI (σ T.1))) (va_cpy fk ks 0 (8 * (σ T.1)) wn) (vp_updL (vp_updL ct (σ T.1) 0) (σ T.1) ((vp_updL ct (σ T.1) 0) (σ T.1) + nn.toInt64)) (upTo (fun m x => x + fa m * nn.toInt64) (8 * (σ T.1)) (upTo (fun _ _ => 0) (8 * (σ T.1)) sm mn) mn) (upTo (fun m x => if fa m < x then fa m else x) (8 * (σ T.1)) (upTo (fun _ _ => 9223372036854775807) (8 * (σ T.1)) le mn) mn) (upTo (fun m x => if fa m < x then x else fa m) (8 * (σ T.1)) (upTo (fun _ _ => (-9223372036854775808)) (8 * (σ T.1)) gr mn) mn)) H := hP
      have hD : va_D A (wX a k (nI wn) (nI mn) (nI (T.1 + 1)) fk fa (insL sl ps T.1 (nI (σ T.1))) (va_cpy fk ks 0 (8 * (σ T.1)) wn) (vp_updL (vp_updL ct (σ T.1) 0) (σ T.1) ((vp_updL ct (σ T.1) 0) (σ T.1) + nn.toInt64)) (upTo (fun m x => x + fa m * nn.toInt64) (8 * (σ T.1)) (upTo (fun _ _ => 0) (8 * (σ T.1)) sm mn) mn) (upTo (fun m x => if fa m < x then fa m else x) (8 * (σ T.1)) (upTo (fun _ _ => 9223372036854775807) (8 * (σ T.1)) le mn) mn) (upTo (fun m x => if fa m < x then x else fa m) (8 * (σ T.1)) (upTo (fun _ _ => (-9223372036854775808)) (8 * (σ T.1)) gr mn) mn)) := hD
      refine lv_iconst (v := 1) hx hb dX_takeFact_59 (by decide) ?_
      have hne : ps < T.1 → ¬ keq wn (T.2.1 ps) fk := fun q1 q2 => hc2 (by rw [← eps]; exact ⟨q1, lx_eq.mpr q2⟩)
      have hn2 := rep_takeNew (fa := fa) (nn := nn.toInt64) hσ hrep h2 hlow2 hne
      have e9 := takeT_new (fa := fa) (nn := nn.toInt64) hc2 h2
      rw [← eps] at e9
      exact W.zret (v := 1) hx hb hr rfl (fun t9 ht9 hW9 => ⟨⟨1, (), rfl, by rw [e9]; rfl, by rw [e9]; exact ⟨_, _, _, _, _, _, _, hn2, by rw [ht9]; exact hP, va_K.moved hW9.alike hK, hD⟩⟩, hS.F ht9⟩) hS.2.2 dX_takeFact_60
    · skip
      have h2 : ¬ T.1 < 1000 := fun q => h2 (nI_lt (b := 1000) q (by decide))
      refine lv_iconst (v := 0) hx hb dX_takeFact_41 (by decide) ?_
      have e9 := takeT_full (fa := fa) (nn := nn.toInt64) hc2 h2
      exact W.zret (v := 0) hx hb hr rfl (fun t9 ht9 hW9 => ⟨⟨0, (), rfl, by rw [e9]; rfl, by rw [e9]; exact ⟨σ, sl, ks, _, _, _, _, ⟨hσ, hrep⟩, by rw [ht9]; exact hP, va_K.moved hW9.alike hK, hD⟩⟩, hS.F ht9⟩) hS.2.2 dX_takeFact_42
end
section
/-! regroup: what holds when p rows have been looked at -/
def rgI (wn mn n : Nat) (σ : Nat → Nat) (ks : Nat → Int32) (ct sm le gr : Nat → Int64) (pp kp : Nat) (σ1 : Nat → Nat) (sl1 : Nat → Int32) (ct1 sm1 le1 gr1 : Nat → Int64) : Prop :=
  (kp ≤ pp ∧ pp ≤ n ∧ n ≤ 1000 ∧ mn ≤ 8) ∧ perm σ1 sl1 ∧ (∀ q, pp ≤ q → q < 1000 → σ1 q = σ q) ∧
  (∀ q, pp ≤ q → q < n → ct1 (σ q) = ct (σ q) ∧ ∀ m, m < mn → sm1 (8 * σ q + m) = sm (8 * σ q + m) ∧ le1 (8 * σ q + m) = le (8 * σ q + m) ∧ gr1 (8 * σ q + m) = gr (8 * σ q + m)) ∧
  srt wn kp (fun j i => ks (8 * σ1 j + i)) ∧
  grp wn mn pp (fun p i => ks (8 * σ p + i)) (fun p => ct (σ p)) (fun p m => sm (8 * σ p + m)) (fun p m => le (8 * σ p + m)) (fun p m => gr (8 * σ p + m)) kp (fun j i => ks (8 * σ1 j + i)) (fun j => ct1 (σ1 j)) (fun j m => sm1 (8 * σ1 j + m)) (fun j m => le1 (8 * σ1 j + m)) (fun j m => gr1 (8 * σ1 j + m))
theorem rg_0 {wn mn n : Nat} {σ : Nat → Nat} {sl ks : Nat → Int32} {ct sm le gr : Nat → Int64} (hσ : perm σ sl) (hn : n ≤ 1000) (hm : mn ≤ 8) : rgI wn mn n σ ks ct sm le gr 0 0 σ sl ct sm le gr :=
  ⟨⟨Nat.le_refl _, Nat.zero_le _, hn, hm⟩, hσ, fun _ _ _ => rfl, fun _ _ _ => ⟨rfl, fun _ _ => ⟨rfl, rfl, rfl⟩⟩, fun p q _ h => by omega, grp_0 _ _ _ _ _ _ _ _ _ _ _ _⟩
theorem rg_hit {wn mn n : Nat} {σ : Nat → Nat} {ks : Nat → Int32} {ct sm le gr : Nat → Int64} {pp kp : Nat} {σ1 : Nat → Nat} {sl1 : Nat → Int32} {ct1 sm1 le1 gr1 : Nat → Int64} (h : rgI wn mn n σ ks ct sm le gr pp kp σ1 sl1 ct1 sm1 le1 gr1) (hp : pp < n) {ps : Nat} (hps : ps < kp) (he : keq wn (fun i => ks (8 * σ1 ps + i)) (fun i => ks (8 * σ pp + i))) :
    rgI wn mn n σ ks ct sm le gr (pp + 1) kp σ1 sl1 (vp_updL ct1 (σ1 ps) (ct1 (σ1 ps) + ct1 (σ pp))) (upTo (fun m x => x + sm1 (8 * σ pp + m)) (8 * σ1 ps) sm1 mn) (upTo (fun m x => if le1 (8 * σ pp + m) < x then le1 (8 * σ pp + m) else x) (8 * σ1 ps) le1 mn) (upTo (fun m x => if gr1 (8 * σ pp + m) < x then x else gr1 (8 * σ pp + m)) (8 * σ1 ps) gr1 mn) := by
  obtain ⟨⟨b1, b2, b3, b4⟩, hσ1, hq, hd, hs, hg⟩ := h
  have ne : ∀ q, pp ≤ q → q < n → σ q ≠ σ1 ps := fun q h1 h2 e => by
    rw [← hq q h1 (by omega)] at e
    have := hσ1.2.2 q ps (by omega) (by omega) e
    omega
  have ne1 : ∀ j, j < kp → j ≠ ps → σ1 j ≠ σ1 ps := fun j h1 h2 e => h2 (hσ1.2.2 j ps (by omega) (by omega) e)
  refine ⟨⟨by omega, by omega, b3, b4⟩, hσ1, fun q h1 h2 => hq q (by omega) h2, fun q h1 h2 => ?_, hs, grp_hit hg hps (keq_symm he) (fun j _ => keq_rf _ _) (fun j hj => ?_) (fun j m hj hm => ?_)⟩
  · have hne := ne q (by omega) h2
    obtain ⟨z1, z2⟩ := hd q (by omega) h2
    refine ⟨by rw [pk_uLn hne]; exact z1, fun m hm => ?_⟩
    rw [upTo_out mn (by omega), upTo_out mn (by omega), upTo_out mn (by omega)]
    exact z2 m hm
  · show vp_updL ct1 (σ1 ps) _ (σ1 j) = _
    by_cases q : j = ps
    · subst q; rw [pk_uLs, if_pos rfl, (hd pp (Nat.le_refl _) hp).1]; rfl
    · rw [pk_uLn (ne1 j hj q), if_neg q]
  · obtain ⟨z1, z2, z3⟩ := (hd pp (Nat.le_refl _) hp).2 m hm
    show upTo _ (8 * σ1 ps) sm1 mn (8 * σ1 j + m) = _ ∧ upTo _ (8 * σ1 ps) le1 mn (8 * σ1 j + m) = _ ∧ upTo _ (8 * σ1 ps) gr1 mn (8 * σ1 j + m) = _
    by_cases q : j = ps
    · subst q
      rw [upTo_at mn hm, upTo_at mn hm, upTo_at mn hm, if_pos rfl, if_pos rfl, if_pos rfl, z1, z2, z3]
      exact ⟨rfl, rfl, mx_comm _ _⟩
    · have := ne1 j hj q
      rw [upTo_out mn (by omega), upTo_out mn (by omega), upTo_out mn (by omega), if_neg q, if_neg q, if_neg q]
      exact ⟨rfl, rfl, rfl⟩
theorem rg_new {wn mn n : Nat} {σ : Nat → Nat} {ks : Nat → Int32} {ct sm le gr : Nat → Int64} {pp kp : Nat} {σ1 : Nat → Nat} {sl1 : Nat → Int32} {ct1 sm1 le1 gr1 : Nat → Int64} (h : rgI wn mn n σ ks ct sm le gr pp kp σ1 sl1 ct1 sm1 le1 gr1) (hp : pp < n) {ps : Nat} (hl : isLow wn kp (fun j i => ks (8 * σ1 j + i)) (fun i => ks (8 * σ pp + i)) ps) (hne : ps < kp → ¬ keq wn (fun i => ks (8 * σ1 ps + i)) (fun i => ks (8 * σ pp + i))) :
    rgI wn mn n σ ks ct sm le gr (pp + 1) (kp + 1) (insS σ1 ps kp pp) (insL (upd sl1 pp (sl1 kp)) ps kp (nI (σ pp))) ct1 sm1 le1 gr1 := by
  obtain ⟨⟨b1, b2, b3, b4⟩, hσ1, hq, hd, hs, hg⟩ := h
  have hps := hl.1
  have hpp : σ1 pp = σ pp := hq pp (Nat.le_refl _) (by omega)
  have hK : ∀ j, j < kp + 1 → (fun i => ks (8 * insS σ1 ps kp pp j + i)) = insF ps (fun i => ks (8 * σ pp + i)) (fun j i => ks (8 * σ1 j + i)) j := by
    intro j hj
    rcases Nat.lt_trichotomy j ps with q | q | q
    · rw [insS_lt q, insF_lt q]
    · subst q; rw [insS_eq, insF_eq, hpp]
    · rw [insS_mid q (by omega), insF_gt q]
  have hs' := srt_ins hs hl hne
  have hsn : srt wn (kp + 1) (fun j i => ks (8 * insS σ1 ps kp pp j + i)) := by
    intro p q h1 h2
    show klt wn (fun i => ks (8 * insS σ1 ps kp pp p + i)) (fun i => ks (8 * insS σ1 ps kp pp q + i))
    rw [hK p (by omega), hK q h2]
    exact hs' p q h1 h2
  refine ⟨⟨by omega, by omega, b3, b4⟩, perm_ins hσ1 hps b1 (by omega) (fun q hq9 => ?_), fun q h1 h2 => (insS_hi hps b1 (by omega)).trans (hq q (by omega) h2), fun q h1 h2 => hd q (by omega) h2, hsn, grp_new hg hps (fun j hj e => ?_) (fun j hj => ?_) (fun j hj => ?_) (fun j m hj hm => ?_)⟩
  · unfold insL upd
    by_cases q1 : q < ps
    · rw [if_pos q1, if_pos q1, if_neg (by omega)]
    · rw [if_neg q1, if_neg q1]
      by_cases q2 : q = ps
      · rw [if_pos q2, if_pos q2, hσ1.1 pp (by omega), hpp]
      · rw [if_neg q2, if_neg q2]
        by_cases q3 : q ≤ kp
        · rw [if_pos q3, if_pos q3, if_neg (by omega)]
        · rw [if_neg q3, if_neg q3]
  · rcases Nat.lt_or_ge j ps with q | q
    · have z := hs' j ps q (by omega)
      rw [insF_lt q, insF_eq] at z
      exact klt_not_keq z (keq_symm e)
    · have z := hs' ps (j + 1) (by omega) (by omega)
      rw [insF_eq, insF_gt (by omega), Nat.add_sub_cancel] at z
      exact klt_not_keq z e
  · have z := hK j hj
    intro i _
    exact (congrFun z i).symm
  · show ct1 (insS σ1 ps kp pp j) = _
    rcases Nat.lt_trichotomy j ps with q | q | q
    · rw [insS_lt q, insF_lt q]
    · subst q; rw [insS_eq, insF_eq, hpp]; exact (hd pp (Nat.le_refl _) hp).1
    · rw [insS_mid q (by omega), insF_gt q]
  · show sm1 (8 * insS σ1 ps kp pp j + m) = _ ∧ le1 (8 * insS σ1 ps kp pp j + m) = _ ∧ gr1 (8 * insS σ1 ps kp pp j + m) = _
    rcases Nat.lt_trichotomy j ps with q | q | q
    · rw [insS_lt q, insF_lt q, insF_lt q, insF_lt q]; exact ⟨rfl, rfl, rfl⟩
    · subst q; rw [insS_eq, insF_eq, insF_eq, insF_eq, hpp]; exact (hd pp (Nat.le_refl _) hp).2 m hm
    · rw [insS_mid q (by omega), insF_gt q, insF_gt q, insF_gt q]; exact ⟨rfl, rfl, rfl⟩
end
section
set_option maxHeartbeats 4000000 in
set_option maxRecDepth 100000 in
/-- regroup -/
theorem c_regroup (l : Launch) (dC : Nat → ClassId) (dI : Nat → Nat → Nat) (a : Nat → Nat) (k : Nat → ClassId) (wn mn nn : Nat) (fk : Nat → Int32) (fa : Nat → Int64) (σ : Nat → Nat) (sl ks : Nat → Int32) (ct sm le gr : Nat → Int64) (hσ : perm σ sl) (hwn : wn ≤ 8) (hmn : mn ≤ 8) (hnn : nn ≤ 1000) (sz : Nat)  : Met l yX_regroup (Cond.code yX_regroup bX_regroup 6 (some .int) :: wAll) { frames := 3, cells := 0, slots := 0, locals := 128 } (va_Pc [.ref (a 0)] (fun U => U.heap.size = sz ∧ va_P (dC, dI) classes (wX a k (nI wn) (nI mn) (nI nn) fk fa sl ks ct sm le gr) U.heap ∧ va_K (dC, dI) classes (kX k) U ∧ va_D (fun _ => True) (wX a k (nI wn) (nI mn) (nI nn) fk fa sl ks ct sm le gr))) (va_Qi (fun (r9 : Int32) (u9 : Nat) => r9 = nI u9) (fun (u9 : Nat) (t9 : State) => ∃ (σ1 : Nat → Nat) (sl1 : Nat → Int32) (ct1 sm1 le1 gr1 : Nat → Int64), rgI wn mn nn σ ks ct sm le gr nn u9 σ1 sl1 ct1 sm1 le1 gr1 ∧ va_P (dC, dI) classes (wX a k (nI wn) (nI mn) (nI nn) fk fa sl1 ks ct1 sm1 le1 gr1) t9.heap ∧ va_K (dC, dI) classes (kX k) t9 ∧ va_D (va_A (wX a k (nI wn) (nI mn) (nI nn) fk fa sl ks ct sm le gr) sz) (wX a k (nI wn) (nI mn) (nI nn) fk fa sl1 ks ct1 sm1 le1 gr1)) (va_A (wX a k (nI wn) (nI mn) (nI nn) fk fa sl ks ct sm le gr) sz)) 0 0 (va_A (wX a k (nI wn) (nI mn) (nI nn) fk fa sl ks ct sm le gr) sz) := by
  refine Met.ofW (cc := bX_regroup) (maxL := 6) (ret := (some .int)) (by decide) rfl ?_
  intro p e s m args below meth c s₁ B hml hv
  obtain ⟨rfl, hsz, hP, hK, hD0⟩ := hv
  have hx := B.exec
  have hb := B.bytes
  have hr := B.returns
  have hta : ∀ w ∈ wAll, w.before ([.ref (a 0)] : List Value).toArray s = true := fun w h => atoms_spec (ws := (Cond.code yX_regroup bX_regroup 6 (some .int) :: wAll)) B.pre w (List.mem_cons_of_mem _ h)
  have hown : s.vm.findClass "GroupRows" = some m.cls := findClass_of_methodNamed B.named
  have hlocks := B.notSynchronized
  subst hsz
  have hD := hD0.self (sz := s.heap.size)
  generalize hAe : va_A (wX a k (nI wn) (nI mn) (nI nn) fk fa sl ks ct sm le gr) s.heap.size = A at hD ⊢
  have hA : ∀ q : Nat, s.heap.size ≤ q → A q := fun q h => by rw [← hAe]; exact Or.inr h
  have hS : va_S A s.heap s.heap [] := va_S.rf
  have hP : va_P (dC, dI) classes (wX a k (nI wn) (nI mn) (nI nn) fk fa sl ks ct sm le gr) s.heap := hP
  have hl := lv_entry ([.ref (a 0)]) (n := 6) (Nat.le_of_ble_eq_true rfl)
  rw [lg_entry_eq]
  generalize (lg_sl ([.ref (a 0)]) ++ List.replicate (6 - (lg_sl ([.ref (a 0)])).length) Slot.unset).toArray = ls at hl ⊢
  have hl : lv_has ls 6 [(0, .ref (a 0))] := hl
  refine lv_iconst (v := 0) hx hb dX_regroup_0 (by decide) ?_
  refine gi_as (y := nI 0) (nI_0.symm) ?_
  refine lv_istore_n (lv' := [(1, .int (nI 0)), (0, .ref (a 0))]) hx hb dX_regroup_1 rfl hl (by decide) rfl (fun ls hl => ?_)
  refine lv_iconst (v := 0) hx hb dX_regroup_2 (by decide) ?_
  refine gi_as (y := nI 0) (nI_0.symm) ?_
  refine lv_istore_n (lv' := [(2, .int (nI 0)), (1, .int (nI 0)), (0, .ref (a 0))]) hx hb dX_regroup_3 rfl hl (by decide) rfl (fun ls hl => ?_)
  have loop : ∀ (kk pp kp : Nat) (σ1 : Nat → Nat) (sl1 : Nat → Int32) (ct1 sm1 le1 gr1 : Nat → Int64), pp + kk = nn → rgI wn mn nn σ ks ct sm le gr pp kp σ1 sl1 ct1 sm1 le1 gr1 → ∀ (H : Heap) (locs : List Loc), va_P (dC, dI) classes (wX a k (nI wn) (nI mn) (nI nn) fk fa sl1 ks ct1 sm1 le1 gr1) H → va_D A (wX a k (nI wn) (nI mn) (nI nn) fk fa sl1 ks ct1 sm1 le1 gr1) → va_S A s.heap H locs → ∀ (ls : Array Slot), lv_has ls 6 [(2, .int (nI pp)), (1, .int (nI kp)), (0, .ref (a 0))] → W p l e (headSpec (Cond.code yX_regroup bX_regroup 6 (some .int) :: wAll) { frames := 3, cells := 0, slots := 0, locals := 128 }).room s m ([.ref (a 0)] : List Value).toArray below meth c H locs 0 0 (MQ below (va_Qi (fun (r9 : Int32) (u9 : Nat) => r9 = nI u9) (fun (u9 : Nat) (t9 : State) => ∃ (σ1 : Nat → Nat) (sl1 : Nat → Int32) (ct1 sm1 le1 gr1 : Nat → Int64), rgI wn mn nn σ ks ct sm le gr nn u9 σ1 sl1 ct1 sm1 le1 gr1 ∧ va_P (dC, dI) classes (wX a k (nI wn) (nI mn) (nI nn) fk fa sl1 ks ct1 sm1 le1 gr1) t9.heap ∧ va_K (dC, dI) classes (kX k) t9 ∧ va_D A (wX a k (nI wn) (nI mn) (nI nn) fk fa sl1 ks ct1 sm1 le1 gr1)) A) ([.ref (a 0)] : List Value).toArray s 0 0 A) (F0 m 4 ls []) := by
    intro kk
    induction kk with
    | zero =>
      intro pp kp σ1 sl1 ct1 sm1 le1 gr1 hpp hI H locs hP hD hS ls hl
      obtain ⟨⟨b1, b2, b3, b4⟩, hσ1, hq1, -, hs1, -⟩ := id hI
      refine lv_iload_n hx hb dX_regroup_4 rfl (lv_at hl 0 rfl) ?_
      refine lv_aload_n hx hb dX_regroup_5 rfl (lv_at hl 2 rfl) ?_
      refine va_get (D := (dC, dI)) (ci := 0) (v := .int (nI nn)) (C := "GroupRows") (T := FX) (N := 11) hx hb hta inX hown hK hP 0 rfl rfl 2 (by decide) (hta _ w21) (fun _ h9 => h9) rfl dX_regroup_6 ?_
      refine lv_icmp_ge (tgt := 98) hx hb dX_regroup_9 (by decide) (fun h1 => ?_) (fun h1 => ?_)
      · skip
        have hj : nn = pp := by omega
        subst hj
        refine lv_iload_n hx hb dX_regroup_98 rfl (lv_at hl 1 rfl) ?_
        exact W.iret (v := (nI kp)) hx hb hr (fun t9 ht9 hW9 => ⟨⟨(nI kp), kp, rfl, rfl, ⟨σ1, sl1, ct1, sm1, le1, gr1, hI, by rw [ht9]; exact hP, va_K.moved hW9.alike hK, hD⟩⟩, hS.F ht9⟩) hS.2.2 dX_regroup_99
      · skip
        exact absurd (nI_le (by omega) (by omega)) h1
    | succ kk ih =>
      intro pp kp σ1 sl1 ct1 sm1 le1 gr1 hpp hI H locs hP hD hS ls hl
      obtain ⟨⟨b1, b2, b3, b4⟩, hσ1, hq1, -, hs1, -⟩ := id hI
      refine lv_iload_n hx hb dX_regroup_4 rfl (lv_at hl 0 rfl) ?_
      refine lv_aload_n hx hb dX_regroup_5 rfl (lv_at hl 2 rfl) ?_
      refine va_get (D := (dC, dI)) (ci := 0) (v := .int (nI nn)) (C := "GroupRows") (T := FX) (N := 11) hx hb hta inX hown hK hP 0 rfl rfl 2 (by decide) (hta _ w21) (fun _ h9 => h9) rfl dX_regroup_6 ?_
      refine lv_icmp_ge (tgt := 98) hx hb dX_regroup_9 (by decide) (fun h1 => ?_) (fun h1 => ?_)
      · skip
        exact absurd h1 (nI_ge (a := pp) (by omega) (by omega))
      · skip
        have hpq : σ1 pp = σ pp := hq1 pp (Nat.le_refl _) (by omega)
        have hsp : sl1 pp = nI (σ pp) := by rw [← hpq]; exact hσ1.1 pp (by omega)
        have hσp : σ pp < 1000 := by rw [← hpq]; exact hσ1.2.1 pp (by omega)
        obtain ⟨ps, hlow⟩ := isLow_ex (fun i => ks (8 * σ pp + i)) hs1
        have hps := hlow.1
        refine lv_aload_n hx hb dX_regroup_12 rfl (lv_at hl 2 rfl) ?_
        refine va_get (D := (dC, dI)) (ci := 0) (v := .ref (a 3)) (C := "GroupRows") (T := FX) (N := 11) hx hb hta inX hown hK hP 0 rfl rfl 5 (by decide) (hta _ w24) (fun _ h9 => h9) rfl dX_regroup_13 ?_
        refine lv_iload_n hx hb dX_regroup_16 rfl (lv_at hl 0 rfl) ?_
        refine gi_iald hx hb hK hP 3 2 rfl rfl (k := pp) (by omega) (by decide) dX_regroup_17 ?_
        refine gi_as (y := nI (σ pp)) (hsp) ?_
        refine lv_istore_n (lv' := [(3, .int (nI (σ pp))), (2, .int (nI pp)), (1, .int (nI kp)), (0, .ref (a 0))]) hx hb dX_regroup_18 rfl hl (by decide) rfl (fun ls hl => ?_)
        refine lv_iload_n hx hb dX_regroup_19 rfl (lv_at hl 0 rfl) ?_
        refine lv_bipush (v := 8) hx hb dX_regroup_20 (by decide) ?_
        refine lv_imul hx hb dX_regroup_22 ?_
        refine gi_as (y := nI (8 * (σ pp))) (gi_mul8 _) ?_
        refine lv_istore (lv' := [(4, .int (nI (8 * (σ pp)))), (3, .int (nI (σ pp))), (2, .int (nI pp)), (1, .int (nI kp)), (0, .ref (a 0))]) hx hb dX_regroup_23 hl (by decide) rfl (fun ls hl => ?_)
        refine lv_aload_n hx hb dX_regroup_25 rfl (lv_at hl 4 rfl) ?_
        refine lv_aload_n hx hb dX_regroup_26 rfl (lv_at hl 4 rfl) ?_
        refine va_get (D := (dC, dI)) (ci := 0) (v := .ref (a 4)) (C := "GroupRows") (T := FX) (N := 11) hx hb hta inX hown hK hP 0 rfl rfl 6 (by decide) (hta _ w25) (fun _ h9 => h9) rfl dX_regroup_27 ?_
        refine lv_iload hx hb dX_regroup_30 (lv_at hl 0 rfl) ?_
        refine lv_iload_n hx hb dX_regroup_32 rfl (lv_at hl 3 rfl) ?_
        refine gi_callR (v := .int (nI ps)) (W.runV (As := [.ref (a 4), .int (nI (8 * (σ pp))), .int (nI kp)]) (rest := []) ⟨hx, hb, hml, hown, hta⟩ (c_lowerPlaceK l dC dI a k wn (nI mn) (nI nn) fk fa sl1 ks ct1 sm1 le1 gr1 σ1 (8 * σ pp) kp ps hwn hσ1 (by omega) (by omega) hlow) (cwV 3 hta (gV w63 w65 sX_lowerPlace w1 w66) rfl rfl rfl (by decide +kernel) ⟨Nat.le_of_ble_eq_true rfl, Nat.le_of_ble_eq_true rfl⟩) ⟨gb_R, va_recv hK hP (ci := 0) (q0 := 0) rfl rfl, fun U hU hW => ⟨rfl, by rw [hU]; exact hP, va_K.moved hW.alike hK⟩⟩ rfl rfl hl.1 rfl (lv_room (Nat.le_of_ble_eq_true rfl)) dX_regroup_33 ⟨Nat.le_of_ble_eq_true rfl, Nat.le_of_ble_eq_true rfl⟩) ?_
        refine lv_istore (lv' := [(5, .int (nI ps)), (4, .int (nI (8 * (σ pp)))), (3, .int (nI (σ pp))), (2, .int (nI pp)), (1, .int (nI kp)), (0, .ref (a 0))]) hx hb dX_regroup_36 hl (by decide) rfl (fun ls hl => ?_)
        refine lv_aload_n hx hb dX_regroup_38 rfl (lv_at hl 5 rfl) ?_
        refine lv_iload hx hb dX_regroup_39 (lv_at hl 0 rfl) ?_
        refine lv_aload_n hx hb dX_regroup_41 rfl (lv_at hl 5 rfl) ?_
        refine va_get (D := (dC, dI)) (ci := 0) (v := .ref (a 4)) (C := "GroupRows") (T := FX) (N := 11) hx hb hta inX hown hK hP 0 rfl rfl 6 (by decide) (hta _ w25) (fun _ h9 => h9) rfl dX_regroup_42 ?_
        refine lv_iload hx hb dX_regroup_45 (lv_at hl 1 rfl) ?_
        refine lv_iload_n hx hb dX_regroup_47 rfl (lv_at hl 4 rfl) ?_
        refine gi_callR (v := .int (if ps < kp ∧ lx (fun i => ks (8 * σ1 ps + i)) (fun i => ks (8 * σ pp + i)) wn 0 = 0 then 1 else 0)) (W.runV (As := [.int (nI ps), .ref (a 4), .int (nI (8 * (σ pp))), .int (nI kp)]) (rest := []) ⟨hx, hb, hml, hown, hta⟩ (c_isKeyAtK l dC dI a k wn (nI mn) (nI nn) fk fa sl1 ks ct1 sm1 le1 gr1 σ1 ps (8 * σ pp) kp hwn hσ1 (by omega) (by omega) (by omega)) (cwV 4 hta (gV w74 w76 sX_isKeyAt w1 w77) rfl rfl rfl (by decide +kernel) ⟨Nat.le_of_ble_eq_true rfl, Nat.le_of_ble_eq_true rfl⟩) ⟨gb_R, va_recv hK hP (ci := 0) (q0 := 0) rfl rfl, fun U hU hW => ⟨rfl, by rw [hU]; exact hP, va_K.moved hW.alike hK⟩⟩ rfl rfl hl.1 rfl (lv_room (Nat.le_of_ble_eq_true rfl)) dX_regroup_48 ⟨Nat.le_of_ble_eq_true rfl, Nat.le_of_ble_eq_true rfl⟩) ?_
        refine lv_if_eq (tgt := 69) hx hb dX_regroup_51 (by decide) (fun h2 => ?_) (fun h2 => ?_)
        · skip
          have hc : ps < kp → ¬ keq wn (fun i => ks (8 * σ1 ps + i)) (fun i => ks (8 * σ pp + i)) := fun q1 q2 => by
            rw [if_pos ⟨q1, lx_eq.mpr q2⟩] at h2; exact absurd h2 (by decide)
          refine lv_aload_n hx hb dX_regroup_69 rfl (lv_at hl 5 rfl) ?_
          refine va_get (D := (dC, dI)) (ci := 0) (v := .ref (a 3)) (C := "GroupRows") (T := FX) (N := 11) hx hb hta inX hown hK hP 0 rfl rfl 5 (by decide) (hta _ w24) (fun _ h9 => h9) rfl dX_regroup_70 ?_
          refine lv_iload_n hx hb dX_regroup_73 rfl (lv_at hl 3 rfl) ?_
          refine lv_aload_n hx hb dX_regroup_74 rfl (lv_at hl 5 rfl) ?_
          refine va_get (D := (dC, dI)) (ci := 0) (v := .ref (a 3)) (C := "GroupRows") (T := FX) (N := 11) hx hb hta inX hown hK hP 0 rfl rfl 5 (by decide) (hta _ w24) (fun _ h9 => h9) rfl dX_regroup_75 ?_
          refine lv_iload_n hx hb dX_regroup_78 rfl (lv_at hl 4 rfl) ?_
          refine gi_iald hx hb hK hP 3 2 rfl rfl (k := kp) (by omega) (by decide) dX_regroup_79 ?_
          refine gi_iast hx hb hK hP hD hS 3 2 rfl rfl (k := pp) (by omega) (by decide) dX_regroup_80 (fun H locs hP hD hS => ?_)
          have hP : va_P (dC, dI) classes (wX a k (nI wn) (nI mn) (nI nn) fk fa (upd sl1 pp (sl1 kp)) ks ct1 sm1 le1 gr1) H := hP
          have hD : va_D A (wX a k (nI wn) (nI mn) (nI nn) fk fa (upd sl1 pp (sl1 kp)) ks ct1 sm1 le1 gr1) := hD
          refine lv_aload_n hx hb dX_regroup_81 rfl (lv_at hl 5 rfl) ?_
          refine lv_iload_n hx hb dX_regroup_82 rfl (lv_at hl 2 rfl) ?_
          refine lv_iload hx hb dX_regroup_83 (lv_at hl 0 rfl) ?_
          refine lv_iload_n hx hb dX_regroup_85 rfl (lv_at hl 4 rfl) ?_
          have hPc := hP
          have hDc := hD
          have hKc := hK
          have hFc := va_free (wc := (wX a k (nI wn) (nI mn) (nI nn) fk fa (upd sl1 pp (sl1 kp)) ks ct1 sm1 le1 gr1)) hD hS hA [0, 1, 2, 3, 4, 5, 6, 7, 8] rfl
          refine va_callv (va_runV (As := [.int (nI (σ pp)), .int (nI ps), .int (nI kp)]) (rest := []) ⟨hx, hb, hml, hown, hta⟩ (c_insertSlot l dC dI a k (nI wn) (nI mn) (nI nn) fk fa (upd sl1 pp (sl1 kp)) ks ct1 sm1 le1 gr1 (nI (σ pp)) ps kp hps (by omega) H.size) (cwV 3 hta (gV w200 w202 sX_insertSlot w1 w203) rfl rfl rfl (by decide +kernel) ⟨Nat.le_of_ble_eq_true rfl, Nat.le_of_ble_eq_true rfl⟩) ⟨gb_W, va_recv hKc hPc (ci := 0) (q0 := 0) rfl rfl, fun U hU hW => ⟨rfl, by rw [hU], by rw [hU]; exact hPc, va_K.moved hW.alike hKc, hDc.weaken (fun _ _ _ _ => trivial)⟩⟩ rfl rfl hl.1 rfl (lv_room (Nat.le_of_ble_eq_true rfl)) dX_regroup_86 ⟨Nat.le_of_ble_eq_true rfl, Nat.le_of_ble_eq_true rfl⟩) hS (fun q _ h => hFc q h) hFc (fun u t H1 locs ht hvm hw hB hz1 hk1 hS => ?_)
          obtain ⟨hP1, hK1, hD1⟩ := hB
          rw [ht] at hP1
          obtain ⟨hP, hD⟩ := va_join (wr := []) (w1 := (wX a k (nI wn) (nI mn) (nI nn) fk fa (insL (upd sl1 pp (sl1 kp)) ps kp (nI (σ pp))) ks ct1 sm1 le1 gr1)) hP hD [0, 1, 2, 3, 4, 5, 6, 7, 8] [] rfl rfl (by decide) (by decide) hk1 hFc hP1 hD1
          generalize H1 = H at hP hS ⊢
          have hP : va_P (dC, dI) classes (wX a k (nI wn) (nI mn) (nI nn) fk fa (insL (upd sl1 pp (sl1 kp)) ps kp (nI (σ pp))) ks ct1 sm1 le1 gr1) H := hP
          have hD : va_D A (wX a k (nI wn) (nI mn) (nI nn) fk fa (insL (upd sl1 pp (sl1 kp)) ps kp (nI (σ pp))) ks ct1 sm1 le1 gr1) := hD
          refine lv_iinc (v := (nI (kp + 1))) (lv' := [(1, .int (nI (kp + 1))), (5, .int (nI ps)), (4, .int (nI (8 * (σ pp)))), (3, .int (nI (σ pp))), (2, .int (nI pp)), (0, .ref (a 0))]) hx hb dX_regroup_89 hl (k := 4) rfl (nI_1 _) (by decide) rfl (fun ls hl => ?_)
          refine lv_iinc (v := (nI (pp + 1))) (lv' := [(2, .int (nI (pp + 1))), (1, .int (nI (kp + 1))), (5, .int (nI ps)), (4, .int (nI (8 * (σ pp)))), (3, .int (nI (σ pp))), (0, .ref (a 0))]) hx hb dX_regroup_92 hl (k := 4) rfl (nI_1 _) (by decide) rfl (fun ls hl => ?_)
          refine lv_goto (tgt := 4) hx hb dX_regroup_95 (by decide) ?_
          have hl := lv_sub hl [0, 1, 5] rfl
          have hl : lv_has ls 6 [(2, .int (nI (pp + 1))), (1, .int (nI (kp + 1))), (0, .ref (a 0))] := hl
          exact ih (pp + 1) (kp + 1) _ _ _ _ _ _ (by omega) (rg_new hI (by omega) hlow hc) H locs hP hD hS ls hl
        · skip
          have hc : ps < kp ∧ lx (fun i => ks (8 * σ1 ps + i)) (fun i => ks (8 * σ pp + i)) wn 0 = 0 := by
            by_cases q : ps < kp ∧ lx (fun i => ks (8 * σ1 ps + i)) (fun i => ks (8 * σ pp + i)) wn 0 = 0
            · exact q
            · rw [if_neg q] at h2; exact absurd rfl h2
          have hne : σ1 ps ≠ σ pp := fun q => by
            rw [← hpq] at q
            have := hσ1.2.2 ps pp (by omega) (by omega) q
            omega
          refine lv_aload_n hx hb dX_regroup_54 rfl (lv_at hl 5 rfl) ?_
          refine lv_aload_n hx hb dX_regroup_55 rfl (lv_at hl 5 rfl) ?_
          refine va_get (D := (dC, dI)) (ci := 0) (v := .ref (a 3)) (C := "GroupRows") (T := FX) (N := 11) hx hb hta inX hown hK hP 0 rfl rfl 5 (by decide) (hta _ w24) (fun _ h9 => h9) rfl dX_regroup_56 ?_
          refine lv_iload hx hb dX_regroup_59 (lv_at hl 0 rfl) ?_
          refine gi_iald hx hb hK hP 3 2 rfl rfl (k := ps) (by omega) (by decide) dX_regroup_61 ?_
          refine gi_as (y := nI (σ1 ps)) (hσ1.1 ps (by omega)) ?_
          refine lv_iload_n hx hb dX_regroup_62 rfl (lv_at hl 2 rfl) ?_
          have hPc := hP
          have hDc := hD
          have hKc := hK
          have hFc := va_free (wc := (wX a k (nI wn) (nI mn) (nI nn) fk fa sl1 ks ct1 sm1 le1 gr1)) hD hS hA [0, 1, 2, 3, 4, 5, 6, 7, 8] rfl
          refine va_callv (va_runV (As := [.int (nI (σ1 ps)), .int (nI (σ pp))]) (rest := []) ⟨hx, hb, hml, hown, hta⟩ (c_joinRow l dC dI a k mn (nI wn) (nI nn) fk fa sl1 ks ct1 sm1 le1 gr1 (σ1 ps) (σ pp) (hσ1.2.1 ps (by omega)) hσp hne hmn H.size) (cwV 2 hta (gV w243 w245 sX_joinRow w1 w246) rfl rfl rfl (by decide +kernel) ⟨Nat.le_of_ble_eq_true rfl, Nat.le_of_ble_eq_true rfl⟩) ⟨gb_W, va_recv hKc hPc (ci := 0) (q0 := 0) rfl rfl, fun U hU hW => ⟨rfl, by rw [hU], by rw [hU]; exact hPc, va_K.moved hW.alike hKc, hDc.weaken (fun _ _ _ _ => trivial)⟩⟩ rfl rfl hl.1 rfl (lv_room (Nat.le_of_ble_eq_true rfl)) dX_regroup_63 ⟨Nat.le_of_ble_eq_true rfl, Nat.le_of_ble_eq_true rfl⟩) hS (fun q _ h => hFc q h) hFc (fun u t H1 locs ht hvm hw hB hz1 hk1 hS => ?_)
          obtain ⟨hP1, hK1, hD1⟩ := hB
          rw [ht] at hP1
          obtain ⟨hP, hD⟩ := va_join (wr := []) (w1 := (wX a k (nI wn) (nI mn) (nI nn) fk fa sl1 ks (vp_updL ct1 (σ1 ps) (ct1 (σ1 ps) + ct1 (σ pp))) (upTo (fun m x => x + sm1 (8 * (σ pp) + m)) (8 * (σ1 ps)) sm1 mn) (upTo (fun m x => if le1 (8 * (σ pp) + m) < x then le1 (8 * (σ pp) + m) else x) (8 * (σ1 ps)) le1 mn) (upTo (fun m x => if gr1 (8 * (σ pp) + m) < x then x else gr1 (8 * (σ pp) + m)) (8 * (σ1 ps)) gr1 mn))) hP hD [0, 1, 2, 3, 4, 5, 6, 7, 8] [] rfl rfl (by decide) (by decide) hk1 hFc hP1 hD1
          generalize H1 = H at hP hS ⊢
          have hP : va_P (dC, dI) classes (wX a k (nI wn) (nI mn) (nI nn) fk fa sl1 ks (vp_updL ct1 (σ1 ps) (ct1 (σ1 ps) + ct1 (σ pp))) (upTo (fun m x => x + sm1 (8 * (σ pp) + m)) (8 * (σ1 ps)) sm1 mn) (upTo (fun m x => if le1 (8 * (σ pp) + m) < x then le1 (8 * (σ pp) + m) else x) (8 * (σ1 ps)) le1 mn) (upTo (fun m x => if gr1 (8 * (σ pp) + m) < x then x else gr1 (8 * (σ pp) + m)) (8 * (σ1 ps)) gr1 mn)) H := hP
          have hD : va_D A (wX a k (nI wn) (nI mn) (nI nn) fk fa sl1 ks (vp_updL ct1 (σ1 ps) (ct1 (σ1 ps) + ct1 (σ pp))) (upTo (fun m x => x + sm1 (8 * (σ pp) + m)) (8 * (σ1 ps)) sm1 mn) (upTo (fun m x => if le1 (8 * (σ pp) + m) < x then le1 (8 * (σ pp) + m) else x) (8 * (σ1 ps)) le1 mn) (upTo (fun m x => if gr1 (8 * (σ pp) + m) < x then x else gr1 (8 * (σ pp) + m)) (8 * (σ1 ps)) gr1 mn)) := hD
          refine lv_goto (tgt := 92) hx hb dX_regroup_66 (by decide) ?_
          refine lv_iinc (v := (nI (pp + 1))) (lv' := [(2, .int (nI (pp + 1))), (5, .int (nI ps)), (4, .int (nI (8 * (σ pp)))), (3, .int (nI (σ pp))), (1, .int (nI kp)), (0, .ref (a 0))]) hx hb dX_regroup_92 hl (k := 3) rfl (nI_1 _) (by decide) rfl (fun ls hl => ?_)
          refine lv_goto (tgt := 4) hx hb dX_regroup_95 (by decide) ?_
          have hl := lv_sub hl [0, 4, 5] rfl
          have hl : lv_has ls 6 [(2, .int (nI (pp + 1))), (1, .int (nI kp)), (0, .ref (a 0))] := hl
          exact ih (pp + 1) kp _ _ _ _ _ _ (by omega) (rg_hit hI (by omega) hc.1 (lx_eq.mp hc.2)) H locs hP hD hS ls hl
  have hl := lv_sub hl [0, 1, 2] rfl
  have hl : lv_has ls 6 [(2, .int (nI 0)), (1, .int (nI 0)), (0, .ref (a 0))] := hl
  exact loop nn 0 0 σ sl ct sm le gr (by omega) (rg_0 hσ hnn hmn) s.heap [] hP hD hS ls hl
end
section
/-! THROWN: what a throw of the class needs beside the tables' good words -/
def thrN : List String := ["java/lang/RuntimeException", "java/lang/Exception"]
def thrS : List (Nat × String) := [(47, "width is not 0 .. 8"), (52, "measures is not 1 .. 8"), (67, "there is no such part"), (72, "there is no such measure"), (75, "n is not 1 .. 100000"), (80, "n is not 1 .. 5000"), (102, "there is no such row"), (104, "what is not 0 .. 2")]
def thrB : List Cond := [.declares ⟨"java/lang/RuntimeException", "<init>", "(Ljava/lang/String;)V"⟩, .declares ⟨"java/lang/Exception", "<init>", "(Ljava/lang/String;)V"⟩, .declares ⟨"java/lang/Throwable", "<init>", "(Ljava/lang/String;)V"⟩, .castable "java/lang/IllegalArgumentException" "java/lang/IllegalArgumentException"]
def thrE (A : Nat → Prop) (U : State) (H : Heap) : Prop :=
  (va_Nw (.declares ⟨"java/lang/RuntimeException", "<init>", "(Ljava/lang/String;)V"⟩) U ∧ va_Nw (.declares ⟨"java/lang/Exception", "<init>", "(Ljava/lang/String;)V"⟩) U ∧ va_Nw (.declares ⟨"java/lang/Throwable", "<init>", "(Ljava/lang/String;)V"⟩) U ∧ va_Nw (.castable "java/lang/IllegalArgumentException" "java/lang/IllegalArgumentException") U) ∧ (∀ q ∈ thrS, ∃ sa, vk_R "GroupRows" q.1 q.2 sa U) ∧ vx_Zq Bundle.tN "UNASSIGNED_STACK" Bundle.steD A U H ∧ vx_Zq Bundle.tN "SUPPRESSED_SENTINEL" Bundle.listD A U H
theorem thrE.warm {A : Nat → Prop} {s U : State} {H : Heap} (hW : s.WarmedH U.vm) (h : thrE A s H) : thrE A U H := by
  obtain ⟨⟨h1, h2, h3, h4⟩, h5, h6, h7⟩ := h
  exact ⟨⟨va_Nw.warmD hW h1, va_Nw.warmD hW h2, va_Nw.warmD hW h3, va_Nw.warmC hW h4⟩, fun q hq => (h5 q hq).elim fun sa hs => ⟨sa, vk_R.warm hW hs⟩, vx_Zq.moved hW.alike h6, vx_Zq.moved hW.alike h7⟩
theorem thrE.kept {A : Nat → Prop} {U : State} {H H1 : Heap} (h : thrE A U H) (hq : ∀ a : Nat, a < H.size → ¬ A a → H1[a]? = H[a]?) : thrE A U H1 := ⟨h.1, h.2.1, vx_Zq.kept h.2.2.1 hq, vx_Zq.kept h.2.2.2 hq⟩
theorem thrE.narrow {A B : Nat → Prop} {U : State} {H : Heap} (h : thrE A U H) (hAB : ∀ q, B q → A q) : thrE B U H := ⟨h.1, h.2.1, vx_Zq.narrow h.2.2.1 hAB, vx_Zq.narrow h.2.2.2 hAB⟩
theorem thrE.same {A : Nat → Prop} {u U : State} {H : Heap} (hv : U.vm = u.vm) (h : thrE A u H) : thrE A U H := by
  obtain ⟨⟨h1, h2, h3, h4⟩, h5, h6, h7⟩ := h
  have ha : u.vm.Alike U.vm := by rw [hv]; exact Vm.Alike.refl _
  exact ⟨⟨va_Nw.same rfl hv.symm h1, va_Nw.same rfl hv.symm h2, va_Nw.same rfl hv.symm h3, va_Nw.same rfl hv.symm h4⟩, fun q hq => (h5 q hq).elim fun sa hs => ⟨sa, vk_R.same hv hs⟩, vx_Zq.moved ha h6, vx_Zq.moved ha h7⟩
theorem thrG : ∀ w ∈ (vx_atS "GroupRows" 49 "java/lang/IllegalArgumentException" thrN).filter goodWord, w ∈ wAll := by decide +kernel
theorem thrNG : ∀ w ∈ (vx_atS "GroupRows" 49 "java/lang/IllegalArgumentException" thrN).filter (fun w => !goodWord w), w ∈ thrB := by decide +kernel
theorem thrOT : ∀ w ∈ Cond.classLink "GroupRows" 45 "java/lang/IllegalArgumentException" :: Cond.initialized "java/lang/IllegalArgumentException" :: vx_atS "GroupRows" 49 "java/lang/IllegalArgumentException" thrN, vx_ot w = true := by decide +kernel
theorem thrE.hat {A : Nat → Prop} {args : Array Value} {s : State} {H : Heap} (hta : ∀ w ∈ wAll, w.before args s = true) (h : thrE A s H) : ∀ w ∈ vx_atS "GroupRows" 49 "java/lang/IllegalArgumentException" thrN, w.before args s = true :=
  vx_hat (B := thrB) (fun w hw => hta w (thrG w hw)) thrNG (vx_c (va_Nw.use rfl h.1.1) (vx_c (va_Nw.use rfl h.1.2.1) (vx_c (va_Nw.use rfl h.1.2.2.1) (vx_c (va_Nw.use rfl h.1.2.2.2) vx_n))))
section GX
variable {p : Program} {l : Launch} {e : Env} {R : Room} {s : State} {m : MethodId} {args : Array Value} {below : List Frame} {meth : Method} {c : Code} {H : Heap} {locs : List Loc} {cells slots : Nat} {Q : State → Prop}
variable {mc ms : Nat} {free : Addr → Prop} {ls : Array Slot} {rest : List Value} {Qc : Array Value → State → Outcome → State → Prop} {XC : String → State → State → Prop}
/-- 'throw new IllegalArgumentException("..")' in the class -/
theorem gx_throw {cc : ByteArray} {pc : Nat} {A : Nat → Prop} (hexec : p.tables.exec = Jvm.exec) (hb : c.code = cc) (hl : l.stackTraces = false) (hown : s.vm.findClass "GroupRows" = some m.cls) (hta : ∀ w ∈ wAll, w.before args s = true) (hT : thrE A s s.heap) (hS : va_S A s.heap H locs) (hsize : ls.size = c.maxLocals) {is : Nat} {text : String} (hq : (is, text) ∈ thrS)
    (d0 : decode cc pc = .ok (.new 45, 3)) (d3 : decode cc (pc + 3) = .ok (.dup, 1)) (d4 : decode cc (pc + 4) = .ok (.ldc is, 2)) (d6 : decode cc (pc + 6) = .ok (.invokespecial 49, 3)) (d9 : decode cc (pc + 9) = .ok (.athrow, 1))
    (hno : ∀ x ∈ c.exceptionTable.toList, False) (hRf : 5 < R.frames) (hRl : (rest.map fun v => v.category).sum + 82 ≤ R.locals) (hRc : cells + 1 ≤ R.cells) (hRs : slots + 6 ≤ R.slots) (hlocks : meth.locks = false)
    (hx : ∀ t : State, s.vm.Alike t.vm → H.size ≤ t.heap.size → (∀ q : Nat, q < H.size → t.heap[q]? = H[q]?) → XC "java/lang/IllegalArgumentException" s t)
    (hf : ∀ z ∈ locs, free z.base) (hc : cells + 1 ≤ mc) (hs : slots + 6 ≤ ms) :
    W p l e R s m args below meth c H locs cells slots (vx_MQ below Qc XC args s mc ms free) (F0 m pc ls rest) := by
  obtain ⟨sa, hstr⟩ := hT.2.1 _ hq
  exact vx_throwS hexec hb hl (names := thrN) hown (by decide +kernel) (by decide +kernel) (hta _ w86) (hta _ w6) hstr (thrE.hat hta hT) thrOT hT.2.2.1 hT.2.2.2 hS hsize d0 d3 d4 d6 d9 (fun x h => (hno x h).elim) hRf hRl hRc hRs hlocks hx hf hc hs
end GX
theorem gb_X {av : List Value} {sz : Nat} {D : va_G} {cl : List vw_C} {ws : va_W} {tys : List (ClassId × FieldType)} {A B : Nat → Prop} : FrameBlind (va_Pc av (fun U => U.heap.size = sz ∧ va_P D cl ws U.heap ∧ va_K D cl tys U ∧ va_D A ws ∧ thrE B U U.heap)) := fun a U g mk q => ⟨q.1, q.2.1, q.2.2.1, va_K.moved (u := U) (U := U.calling g mk a) (Vm.Alike.refl U.vm) q.2.2.2.1, q.2.2.2.2.1, thrE.same (u := U) rfl q.2.2.2.2.2⟩
end
section
/-! small rows for the public methods -/
theorem gx_P {D : va_G} {cl : List vw_C} {ws : va_W} {H H1 : Heap} (h : va_P D cl ws H) (hk : ∀ q : Nat, q < H.size → H1[q]? = H[q]?) : va_P D cl ws H1 := fun k q hq => (h k q hq).kept (hk q.1 (h k q hq).lt)
theorem gx_F {A : Nat → Prop} {s t : State} {H : Heap} {locs : List Loc} (hS : va_S A s.heap H locs) (hz : H.size ≤ t.heap.size) (hk : ∀ q : Nat, q < H.size → t.heap[q]? = H[q]?) : va_F A s t := ⟨Nat.le_trans hS.1 hz, fun q h1 h2 => (hk q (Nat.lt_of_lt_of_le h1 hS.1)).trans (hS.2.1 q h1 h2)⟩
/-- a number in its bounds is one of mine -/
theorem in_nI {i : Int32} {n : Nat} (hn : n < 2 ^ 31) (h : 0 ≤ i ∧ i < nI n) : ∃ j : Nat, j < n ∧ i = nI j ∧ i.toNatClampNeg = j := by
  rcases pk_ix i hn with q | q | ⟨j, h1, h2⟩
  · exact absurd q (Int32.not_lt.mpr h.1)
  · exact absurd h.2 (Int32.not_lt.mpr q)
  · exact ⟨j, h1, h2, by rw [h2]; exact nI_clamp (by omega)⟩
theorem in_le {i : Int32} {n : Nat} (hn : n < 2 ^ 31) (h : 0 ≤ i ∧ i ≤ nI n) : ∃ j : Nat, j ≤ n ∧ i = nI j ∧ i.toNatClampNeg = j := by
  obtain ⟨j, h1, h2⟩ := nI_of2 (nI_toInt hn) (Int32.not_lt.mpr h.1) h.2
  exact ⟨j, h1, h2, by rw [h2]; exact nI_clamp (by omega)⟩
theorem i32_0le1 {i : Int32} (h : 1 ≤ i) : 0 ≤ i := by
  have a := Int32.le_iff_toInt_le.mp h
  have b : (1 : Int32).toInt = 1 := by decide
  have d : (0 : Int32).toInt = 0 := by decide
  exact Int32.le_iff_toInt_le.mpr (by omega)
theorem nI_1le {j : Nat} (h : j < 2 ^ 31) (h1 : (1 : Int32) ≤ nI j) : 1 ≤ j := (nI_leI (a := 1) (by decide) h).mp h1
end
section
set_option maxHeartbeats 4000000 in
set_option maxRecDepth 100000 in
/-- key -/
theorem c_key (l : Launch) (hnt : l.stackTraces = false) (dC : Nat → ClassId) (dI : Nat → Nat → Nat) (a : Nat → Nat) (k : Nat → ClassId) (wn mn : Nat) (fk : Nat → Int32) (fa : Nat → Int64) (T : TB) (σ : Nat → Nat) (sl ks : Nat → Int32) (ct sm le gr : Nat → Int64) (hσ : perm σ sl) (hrep : repT σ wn mn T ks ct sm le gr) (i v : Int32) (sz : Nat) : vx_Met l yX_key (Cond.code yX_key bX_key 4 (some .int) :: wAll) { frames := 6, cells := 1, slots := 6, locals := 160 } (va_Pc [.ref (a 0), .int i, .int v] (fun U => U.heap.size = sz ∧ va_P (dC, dI) classes (wX a k (nI wn) (nI mn) (nI T.1) fk fa sl ks ct sm le gr) U.heap ∧ va_K (dC, dI) classes (kX k) U ∧ va_D (fun _ => True) (wX a k (nI wn) (nI mn) (nI T.1) fk fa sl ks ct sm le gr) ∧ thrE (va_A (wX a k (nI wn) (nI mn) (nI T.1) fk fa sl ks ct sm le gr) sz) U U.heap)) (va_Qi (fun (r9 : Int32) (_ : Unit) => (0 ≤ i ∧ i < nI wn) ∧ r9 = (fk i.toNatClampNeg)) (fun (_ : Unit) (t9 : State) => atX dC dI (va_A (wX a k (nI wn) (nI mn) (nI T.1) fk fa sl ks ct sm le gr) sz) a k wn mn (upd fk i.toNatClampNeg v) fa T t9) (va_A (wX a k (nI wn) (nI mn) (nI T.1) fk fa sl ks ct sm le gr) sz)) (vx_X (fun _ : Unit => ¬ (0 ≤ i ∧ i < nI wn)) (fun (E9 : String) (_ : Unit) (t9 : State) => E9 = "java/lang/IllegalArgumentException" ∧ va_P (dC, dI) classes (wX a k (nI wn) (nI mn) (nI T.1) fk fa sl ks ct sm le gr) t9.heap ∧ va_K (dC, dI) classes (kX k) t9 ∧ va_D (va_A (wX a k (nI wn) (nI mn) (nI T.1) fk fa sl ks ct sm le gr) sz) (wX a k (nI wn) (nI mn) (nI T.1) fk fa sl ks ct sm le gr)) (va_A (wX a k (nI wn) (nI mn) (nI T.1) fk fa sl ks ct sm le gr) sz)) 1 6 (va_A (wX a k (nI wn) (nI mn) (nI T.1) fk fa sl ks ct sm le gr) sz) := by
  refine vx_ofW (cc := bX_key) (maxL := 4) (ret := (some .int)) (by decide) rfl ?_
  intro p e s m args below meth c s₁ B hml hno hv
  obtain ⟨rfl, hsz, hP, hK, hD0, hT⟩ := hv
  have hx := B.exec
  have hb := B.bytes
  have hr := B.returns
  have hta : ∀ w ∈ wAll, w.before ([.ref (a 0), .int i, .int v] : List Value).toArray s = true := fun w h => atoms_spec (ws := (Cond.code yX_key bX_key 4 (some .int) :: wAll)) B.pre w (List.mem_cons_of_mem _ h)
  have hown : s.vm.findClass "GroupRows" = some m.cls := findClass_of_methodNamed B.named
  have hlocks := B.notSynchronized
  subst hsz
  have hD := hD0.self (sz := s.heap.size)
  generalize hAe : va_A (wX a k (nI wn) (nI mn) (nI T.1) fk fa sl ks ct sm le gr) s.heap.size = A at hD hT ⊢
  have hA : ∀ q : Nat, s.heap.size ≤ q → A q := fun q h => by rw [← hAe]; exact Or.inr h
  have hS : va_S A s.heap s.heap [] := va_S.rf
  have hP : va_P (dC, dI) classes (wX a k (nI wn) (nI mn) (nI T.1) fk fa sl ks ct sm le gr) s.heap := hP
  have hl := lv_entry ([.ref (a 0), .int i, .int v]) (n := 4) (Nat.le_of_ble_eq_true rfl)
  rw [lg_entry_eq]
  generalize (lg_sl ([.ref (a 0), .int i, .int v]) ++ List.replicate (4 - (lg_sl ([.ref (a 0), .int i, .int v])).length) Slot.unset).toArray = ls at hl ⊢
  have hl : lv_has ls 4 [(0, .ref (a 0)), (1, .int i), (2, .int v)] := hl
  obtain ⟨⟨hwn, hmn1, hmn, hn⟩, hk9, hc9, hv9, hs9⟩ := id hrep
  refine lv_aload_n hx hb dX_key_0 rfl (lv_at hl 0 rfl) ?_
  refine lv_iload_n hx hb dX_key_1 rfl (lv_at hl 1 rfl) ?_
  refine gi_callR (v := .int (if 0 ≤ i ∧ i < nI wn then 1 else 0)) (W.runV (As := [.int i]) (rest := []) ⟨hx, hb, hml, hown, hta⟩ (c_isPart l dC dI a k (nI wn) (nI mn) (nI T.1) fk fa sl ks ct sm le gr i) (cwV 1 hta (gV w166 w168 sX_isPart w1 w169) rfl rfl rfl (by decide +kernel) ⟨Nat.le_of_ble_eq_true rfl, Nat.le_of_ble_eq_true rfl⟩) ⟨gb_R, va_recv hK hP (ci := 0) (q0 := 0) rfl rfl, fun U hU hW => ⟨rfl, by rw [hU]; exact hP, va_K.moved hW.alike hK⟩⟩ rfl rfl hl.1 rfl (lv_room (Nat.le_of_ble_eq_true rfl)) dX_key_2 ⟨Nat.le_of_ble_eq_true rfl, Nat.le_of_ble_eq_true rfl⟩) ?_
  refine lv_if_ne (tgt := 18) hx hb dX_key_5 (by decide) (fun h1 => ?_) (fun h1 => ?_)
  rotate_left
  · skip
    have hn9 : ¬ (0 ≤ i ∧ i < nI wn) := fun q => by rw [if_pos q] at h1; exact absurd h1 (by decide)
    exact gx_throw (is := 67) (text := "there is no such part") hx hb hnt hown hta hT hS (hl.1.trans hml.symm) (by decide) dX_key_8 dX_key_11 dX_key_12 dX_key_14 dX_key_17 hno (Nat.le_of_ble_eq_true rfl) (Nat.le_of_ble_eq_true rfl) (Nat.le_of_ble_eq_true rfl) (Nat.le_of_ble_eq_true rfl) hlocks (fun t9 hv9 hz9 hk9 => ⟨(), hn9, ⟨rfl, gx_P hP hk9, va_K.moved hv9 hK, hD⟩, gx_F hS hz9 hk9⟩) hS.2.2 (Nat.le_of_ble_eq_true rfl) (Nat.le_of_ble_eq_true rfl)
  · skip
    have hL : 0 ≤ i ∧ i < nI wn := by
      by_cases q : 0 ≤ i ∧ i < nI wn
      · exact q
      · rw [if_neg q] at h1; exact absurd rfl h1
    obtain ⟨j, hj, ej, cj⟩ := in_nI (by omega) hL
    subst ej
    refine lv_aload_n hx hb dX_key_18 rfl (lv_at hl 0 rfl) ?_
    refine va_get (D := (dC, dI)) (ci := 0) (v := .ref (a 1)) (C := "GroupRows") (T := FX) (N := 11) hx hb hta inX hown hK hP 0 rfl rfl 3 (by decide) (hta _ w22) (fun _ h9 => h9) rfl dX_key_19 ?_
    refine lv_iload_n hx hb dX_key_22 rfl (lv_at hl 1 rfl) ?_
    refine gi_iald hx hb hK hP 1 0 rfl rfl (k := j) (by omega) (by decide) dX_key_23 ?_
    refine lv_istore_n (lv' := [(3, .int (fk j)), (0, .ref (a 0)), (1, .int (nI j)), (2, .int v)]) hx hb dX_key_24 rfl hl (by decide) rfl (fun ls hl => ?_)
    refine lv_aload_n hx hb dX_key_25 rfl (lv_at hl 1 rfl) ?_
    refine va_get (D := (dC, dI)) (ci := 0) (v := .ref (a 1)) (C := "GroupRows") (T := FX) (N := 11) hx hb hta inX hown hK hP 0 rfl rfl 3 (by decide) (hta _ w22) (fun _ h9 => h9) rfl dX_key_26 ?_
    refine lv_iload_n hx hb dX_key_29 rfl (lv_at hl 2 rfl) ?_
    refine lv_iload_n hx hb dX_key_30 rfl (lv_at hl 3 rfl) ?_
    refine gi_iast hx hb hK hP hD hS 1 0 rfl rfl (k := j) (by omega) (by decide) dX_key_31 (fun H locs hP hD hS => ?_)
    have hP : va_P (dC, dI) classes (wX a k (nI wn) (nI mn) (nI T.1) (upd fk j v) fa sl ks ct sm le gr) H := hP
    have hD : va_D A (wX a k (nI wn) (nI mn) (nI T.1) (upd fk j v) fa sl ks ct sm le gr) := hD
    refine lv_iload_n hx hb dX_key_32 rfl (lv_at hl 0 rfl) ?_
    refine vx_ret ?_
    refine W.widen (k := 1) (n := 6) (Nat.zero_le _) (Nat.zero_le _) ?_
    exact W.iret (v := (fk j)) hx hb hr (fun t9 ht9 hW9 => ⟨⟨(fk j), (), rfl, ⟨hL, by rw [cj]⟩, by rw [cj]; exact ⟨σ, sl, ks, ct, sm, le, gr, ⟨hσ, hrep⟩, by rw [ht9]; exact hP, va_K.moved hW9.alike hK, hD⟩⟩, hS.F ht9⟩) hS.2.2 dX_key_33
set_option maxHeartbeats 4000000 in
set_option maxRecDepth 100000 in
/-- amount -/
theorem c_amount (l : Launch) (hnt : l.stackTraces = false) (dC : Nat → ClassId) (dI : Nat → Nat → Nat) (a : Nat → Nat) (k : Nat → ClassId) (wn mn : Nat) (fk : Nat → Int32) (fa : Nat → Int64) (T : TB) (σ : Nat → Nat) (sl ks : Nat → Int32) (ct sm le gr : Nat → Int64) (hσ : perm σ sl) (hrep : repT σ wn mn T ks ct sm le gr) (m0 : Int32) (v : Int64) (sz : Nat) : vx_Met l yX_amount (Cond.code yX_amount bX_amount 6 (some .long) :: wAll) { frames := 6, cells := 1, slots := 6, locals := 160 } (va_Pc [.ref (a 0), .int m0, .long v] (fun U => U.heap.size = sz ∧ va_P (dC, dI) classes (wX a k (nI wn) (nI mn) (nI T.1) fk fa sl ks ct sm le gr) U.heap ∧ va_K (dC, dI) classes (kX k) U ∧ va_D (fun _ => True) (wX a k (nI wn) (nI mn) (nI T.1) fk fa sl ks ct sm le gr) ∧ thrE (va_A (wX a k (nI wn) (nI mn) (nI T.1) fk fa sl ks ct sm le gr) sz) U U.heap)) (va_Ql (fun (r9 : Int64) (_ : Unit) => (0 ≤ m0 ∧ m0 < nI mn) ∧ r9 = (fa m0.toNatClampNeg)) (fun (_ : Unit) (t9 : State) => atX dC dI (va_A (wX a k (nI wn) (nI mn) (nI T.1) fk fa sl ks ct sm le gr) sz) a k wn mn fk (vp_updL fa m0.toNatClampNeg v) T t9) (va_A (wX a k (nI wn) (nI mn) (nI T.1) fk fa sl ks ct sm le gr) sz)) (vx_X (fun _ : Unit => ¬ (0 ≤ m0 ∧ m0 < nI mn)) (fun (E9 : String) (_ : Unit) (t9 : State) => E9 = "java/lang/IllegalArgumentException" ∧ va_P (dC, dI) classes (wX a k (nI wn) (nI mn) (nI T.1) fk fa sl ks ct sm le gr) t9.heap ∧ va_K (dC, dI) classes (kX k) t9 ∧ va_D (va_A (wX a k (nI wn) (nI mn) (nI T.1) fk fa sl ks ct sm le gr) sz) (wX a k (nI wn) (nI mn) (nI T.1) fk fa sl ks ct sm le gr)) (va_A (wX a k (nI wn) (nI mn) (nI T.1) fk fa sl ks ct sm le gr) sz)) 1 6 (va_A (wX a k (nI wn) (nI mn) (nI T.1) fk fa sl ks ct sm le gr) sz) := by
  refine vx_ofW (cc := bX_amount) (maxL := 6) (ret := (some .long)) (by decide) rfl ?_
  intro p e s m args below meth c s₁ B hml hno hv
  obtain ⟨rfl, hsz, hP, hK, hD0, hT⟩ := hv
  have hx := B.exec
  have hb := B.bytes
  have hr := B.returns
  have hta : ∀ w ∈ wAll, w.before ([.ref (a 0), .int m0, .long v] : List Value).toArray s = true := fun w h => atoms_spec (ws := (Cond.code yX_amount bX_amount 6 (some .long) :: wAll)) B.pre w (List.mem_cons_of_mem _ h)
  have hown : s.vm.findClass "GroupRows" = some m.cls := findClass_of_methodNamed B.named
  have hlocks := B.notSynchronized
  subst hsz
  have hD := hD0.self (sz := s.heap.size)
  generalize hAe : va_A (wX a k (nI wn) (nI mn) (nI T.1) fk fa sl ks ct sm le gr) s.heap.size = A at hD hT ⊢
  have hA : ∀ q : Nat, s.heap.size ≤ q → A q := fun q h => by rw [← hAe]; exact Or.inr h
  have hS : va_S A s.heap s.heap [] := va_S.rf
  have hP : va_P (dC, dI) classes (wX a k (nI wn) (nI mn) (nI T.1) fk fa sl ks ct sm le gr) s.heap := hP
  have hl := lv_entry ([.ref (a 0), .int m0, .long v]) (n := 6) (Nat.le_of_ble_eq_true rfl)
  rw [lg_entry_eq]
  generalize (lg_sl ([.ref (a 0), .int m0, .long v]) ++ List.replicate (6 - (lg_sl ([.ref (a 0), .int m0, .long v])).length) Slot.unset).toArray = ls at hl ⊢
  have hl : lv_has ls 6 [(0, .ref (a 0)), (1, .int m0), (2, .long v)] := hl
  obtain ⟨⟨hwn, hmn1, hmn, hn⟩, hk9, hc9, hv9, hs9⟩ := id hrep
  refine lv_aload_n hx hb dX_amount_0 rfl (lv_at hl 0 rfl) ?_
  refine lv_iload_n hx hb dX_amount_1 rfl (lv_at hl 1 rfl) ?_
  refine gi_callR (v := .int (if 0 ≤ m0 ∧ m0 < nI mn then 1 else 0)) (W.runV (As := [.int m0]) (rest := []) ⟨hx, hb, hml, hown, hta⟩ (c_isMeasure l dC dI a k (nI wn) (nI mn) (nI T.1) fk fa sl ks ct sm le gr m0) (cwV 1 hta (gV w178 w180 sX_isMeasure w1 w181) rfl rfl rfl (by decide +kernel) ⟨Nat.le_of_ble_eq_true rfl, Nat.le_of_ble_eq_true rfl⟩) ⟨gb_R, va_recv hK hP (ci := 0) (q0 := 0) rfl rfl, fun U hU hW => ⟨rfl, by rw [hU]; exact hP, va_K.moved hW.alike hK⟩⟩ rfl rfl hl.1 rfl (lv_room (Nat.le_of_ble_eq_true rfl)) dX_amount_2 ⟨Nat.le_of_ble_eq_true rfl, Nat.le_of_ble_eq_true rfl⟩) ?_
  refine lv_if_ne (tgt := 18) hx hb dX_amount_5 (by decide) (fun h1 => ?_) (fun h1 => ?_)
  rotate_left
  · skip
    have hn9 : ¬ (0 ≤ m0 ∧ m0 < nI mn) := fun q => by rw [if_pos q] at h1; exact absurd h1 (by decide)
    exact gx_throw (is := 72) (text := "there is no such measure") hx hb hnt hown hta hT hS (hl.1.trans hml.symm) (by decide) dX_amount_8 dX_amount_11 dX_amount_12 dX_amount_14 dX_amount_17 hno (Nat.le_of_ble_eq_true rfl) (Nat.le_of_ble_eq_true rfl) (Nat.le_of_ble_eq_true rfl) (Nat.le_of_ble_eq_true rfl) hlocks (fun t9 hv9 hz9 hk9 => ⟨(), hn9, ⟨rfl, gx_P hP hk9, va_K.moved hv9 hK, hD⟩, gx_F hS hz9 hk9⟩) hS.2.2 (Nat.le_of_ble_eq_true rfl) (Nat.le_of_ble_eq_true rfl)
  · skip
    have hL : 0 ≤ m0 ∧ m0 < nI mn := by
      by_cases q : 0 ≤ m0 ∧ m0 < nI mn
      · exact q
      · rw [if_neg q] at h1; exact absurd rfl h1
    obtain ⟨j, hj, ej, cj⟩ := in_nI (by omega) hL
    subst ej
    refine lv_aload_n hx hb dX_amount_18 rfl (lv_at hl 0 rfl) ?_
    refine va_get (D := (dC, dI)) (ci := 0) (v := .ref (a 2)) (C := "GroupRows") (T := FX) (N := 11) hx hb hta inX hown hK hP 0 rfl rfl 4 (by decide) (hta _ w23) (fun _ h9 => h9) rfl dX_amount_19 ?_
    refine lv_iload_n hx hb dX_amount_22 rfl (lv_at hl 1 rfl) ?_
    refine gi_lald hx hb hK hP 2 1 rfl rfl (k := j) (by omega) (by decide) dX_amount_23 ?_
    refine lv_lstore (lv' := [(4, .long (fa j)), (0, .ref (a 0)), (1, .int (nI j)), (2, .long v)]) hx hb dX_amount_24 hl (by decide) rfl (fun ls hl => ?_)
    refine lv_aload_n hx hb dX_amount_26 rfl (lv_at hl 1 rfl) ?_
    refine va_get (D := (dC, dI)) (ci := 0) (v := .ref (a 2)) (C := "GroupRows") (T := FX) (N := 11) hx hb hta inX hown hK hP 0 rfl rfl 4 (by decide) (hta _ w23) (fun _ h9 => h9) rfl dX_amount_27 ?_
    refine lv_iload_n hx hb dX_amount_30 rfl (lv_at hl 2 rfl) ?_
    refine lv_lload_n hx hb dX_amount_31 rfl (lv_at hl 3 rfl) ?_
    refine gi_last hx hb hK hP hD hS 2 1 rfl rfl (k := j) (by omega) (by decide) dX_amount_32 (fun H locs hP hD hS => ?_)
    have hP : va_P (dC, dI) classes (wX a k (nI wn) (nI mn) (nI T.1) fk (vp_updL fa j v) sl ks ct sm le gr) H := hP
    have hD : va_D A (wX a k (nI wn) (nI mn) (nI T.1) fk (vp_updL fa j v) sl ks ct sm le gr) := hD
    refine lv_lload hx hb dX_amount_33 (lv_at hl 0 rfl) ?_
    refine vx_ret ?_
    refine W.widen (k := 1) (n := 6) (Nat.zero_le _) (Nat.zero_le _) ?_
    exact W.lret (v := (fa j)) hx hb hr (fun t9 ht9 hW9 => ⟨⟨(fa j), (), rfl, ⟨hL, by rw [cj]⟩, by rw [cj]; exact ⟨σ, sl, ks, ct, sm, le, gr, ⟨hσ, hrep⟩, by rw [ht9]; exact hP, va_K.moved hW9.alike hK, hD⟩⟩, hS.F ht9⟩) hS.2.2 dX_amount_35
set_option maxHeartbeats 4000000 in
set_option maxRecDepth 100000 in
/-- add -/
theorem c_add (l : Launch) (hnt : l.stackTraces = false) (dC : Nat → ClassId) (dI : Nat → Nat → Nat) (a : Nat → Nat) (k : Nat → ClassId) (wn mn : Nat) (fk : Nat → Int32) (fa : Nat → Int64) (T : TB) (σ : Nat → Nat) (sl ks : Nat → Int32) (ct sm le gr : Nat → Int64) (hσ : perm σ sl) (hrep : repT σ wn mn T ks ct sm le gr) (nn : Int32) (sz : Nat) : vx_Met l yX_add (Cond.code yX_add bX_add 2 (some .int) :: wAll) { frames := 6, cells := 1, slots := 6, locals := 160 } (va_Pc [.ref (a 0), .int nn] (fun U => U.heap.size = sz ∧ va_P (dC, dI) classes (wX a k (nI wn) (nI mn) (nI T.1) fk fa sl ks ct sm le gr) U.heap ∧ va_K (dC, dI) classes (kX k) U ∧ va_D (fun _ => True) (wX a k (nI wn) (nI mn) (nI T.1) fk fa sl ks ct sm le gr) ∧ thrE (va_A (wX a k (nI wn) (nI mn) (nI T.1) fk fa sl ks ct sm le gr) sz) U U.heap)) (va_Qi (fun (r9 : Int32) (_ : Unit) => (1 ≤ nn ∧ nn ≤ 100000) ∧ r9 = (if (takeT wn fk fa nn.toInt64 T).2 = true then nI (takeT wn fk fa nn.toInt64 T).1.1 else (-2))) (fun (_ : Unit) (t9 : State) => atX dC dI (va_A (wX a k (nI wn) (nI mn) (nI T.1) fk fa sl ks ct sm le gr) sz) a k wn mn fk fa (takeT wn fk fa nn.toInt64 T).1 t9) (va_A (wX a k (nI wn) (nI mn) (nI T.1) fk fa sl ks ct sm le gr) sz)) (vx_X (fun _ : Unit => ¬ (1 ≤ nn ∧ nn ≤ 100000)) (fun (E9 : String) (_ : Unit) (t9 : State) => E9 = "java/lang/IllegalArgumentException" ∧ va_P (dC, dI) classes (wX a k (nI wn) (nI mn) (nI T.1) fk fa sl ks ct sm le gr) t9.heap ∧ va_K (dC, dI) classes (kX k) t9 ∧ va_D (va_A (wX a k (nI wn) (nI mn) (nI T.1) fk fa sl ks ct sm le gr) sz) (wX a k (nI wn) (nI mn) (nI T.1) fk fa sl ks ct sm le gr)) (va_A (wX a k (nI wn) (nI mn) (nI T.1) fk fa sl ks ct sm le gr) sz)) 1 6 (va_A (wX a k (nI wn) (nI mn) (nI T.1) fk fa sl ks ct sm le gr) sz) := by
  refine vx_ofW (cc := bX_add) (maxL := 2) (ret := (some .int)) (by decide) rfl ?_
  intro p e s m args below meth c s₁ B hml hno hv
  obtain ⟨rfl, hsz, hP, hK, hD0, hT⟩ := hv
  have hx := B.exec
  have hb := B.bytes
  have hr := B.returns
  have hta : ∀ w ∈ wAll, w.before ([.ref (a 0), .int nn] : List Value).toArray s = true := fun w h => atoms_spec (ws := (Cond.code yX_add bX_add 2 (some .int) :: wAll)) B.pre w (List.mem_cons_of_mem _ h)
  have hown : s.vm.findClass "GroupRows" = some m.cls := findClass_of_methodNamed B.named
  have hlocks := B.notSynchronized
  subst hsz
  have hD := hD0.self (sz := s.heap.size)
  generalize hAe : va_A (wX a k (nI wn) (nI mn) (nI T.1) fk fa sl ks ct sm le gr) s.heap.size = A at hD hT ⊢
  have hA : ∀ q : Nat, s.heap.size ≤ q → A q := fun q h => by rw [← hAe]; exact Or.inr h
  have hS : va_S A s.heap s.heap [] := va_S.rf
  have hP : va_P (dC, dI) classes (wX a k (nI wn) (nI mn) (nI T.1) fk fa sl ks ct sm le gr) s.heap := hP
  have hl := lv_entry ([.ref (a 0), .int nn]) (n := 2) (Nat.le_of_ble_eq_true rfl)
  rw [lg_entry_eq]
  generalize (lg_sl ([.ref (a 0), .int nn]) ++ List.replicate (2 - (lg_sl ([.ref (a 0), .int nn])).length) Slot.unset).toArray = ls at hl ⊢
  have hl : lv_has ls 2 [(0, .ref (a 0)), (1, .int nn)] := hl
  refine lv_iload_n hx hb dX_add_0 rfl (lv_at hl 1 rfl) ?_
  refine lv_iconst (v := 1) hx hb dX_add_1 (by decide) ?_
  refine lv_icmp_lt (tgt := 11) hx hb dX_add_2 (by decide) (fun h1 => ?_) (fun h1 => ?_)
  · skip
    exact gx_throw (is := 75) (text := "n is not 1 .. 100000") hx hb hnt hown hta hT hS (hl.1.trans hml.symm) (by decide) dX_add_11 dX_add_14 dX_add_15 dX_add_17 dX_add_20 hno (Nat.le_of_ble_eq_true rfl) (Nat.le_of_ble_eq_true rfl) (Nat.le_of_ble_eq_true rfl) (Nat.le_of_ble_eq_true rfl) hlocks (fun t9 hv9 hz9 hk9 => ⟨(), fun q => absurd q.1 (Int32.not_le.mpr h1), ⟨rfl, gx_P hP hk9, va_K.moved hv9 hK, hD⟩, gx_F hS hz9 hk9⟩) hS.2.2 (Nat.le_of_ble_eq_true rfl) (Nat.le_of_ble_eq_true rfl)
  · skip
    refine lv_iload_n hx hb dX_add_5 rfl (lv_at hl 1 rfl) ?_
    refine lv_ldc (v := 100000) hx hb hown (hta _ w190) dX_add_6 ?_
    refine lv_icmp_le (tgt := 21) hx hb dX_add_8 (by decide) (fun h2 => ?_) (fun h2 => ?_)
    · skip
      refine lv_aload_n hx hb dX_add_21 rfl (lv_at hl 0 rfl) ?_
      refine lv_iload_n hx hb dX_add_22 rfl (lv_at hl 1 rfl) ?_
      have hPc := hP
      have hDc := hD
      have hKc := hK
      have hFc := va_free (wc := (wX a k (nI wn) (nI mn) (nI T.1) fk fa sl ks ct sm le gr)) hD hS hA [0, 1, 2, 3, 4, 5, 6, 7, 8] rfl
      refine va_calli (va_runV (As := [.int nn]) (rest := []) ⟨hx, hb, hml, hown, hta⟩ (c_takeFact l dC dI a k wn mn fk fa T σ sl ks ct sm le gr hσ hrep nn s.heap.size) (cwV 1 hta (gV w192 w194 sX_takeFact w1 w195) rfl rfl rfl (by decide +kernel) ⟨Nat.le_of_ble_eq_true rfl, Nat.le_of_ble_eq_true rfl⟩) ⟨gb_W, va_recv hKc hPc (ci := 0) (q0 := 0) rfl rfl, fun U hU hW => ⟨rfl, by rw [hU], by rw [hU]; exact hPc, va_K.moved hW.alike hKc, hDc.weaken (fun _ _ _ _ => trivial)⟩⟩ rfl rfl hl.1 rfl (lv_room (Nat.le_of_ble_eq_true rfl)) dX_add_23 ⟨Nat.le_of_ble_eq_true rfl, Nat.le_of_ble_eq_true rfl⟩) hS (fun q _ h => hFc q h) hFc (fun r_9 u t H1 locs ht hvm hw hB hz1 hk1 hS => ?_)
      obtain ⟨σ1, sl1, ks1, ct1, sm1, le1, gr1, ⟨hσ1, hr1⟩, hP1, hK1, hD1⟩ := hB
      rw [ht] at hP1
      obtain ⟨hP, hD⟩ := va_join (wr := []) (w1 := (wX a k (nI wn) (nI mn) (nI (takeT wn fk fa nn.toInt64 T).1.1) fk fa sl1 ks1 ct1 sm1 le1 gr1)) hP hD [0, 1, 2, 3, 4, 5, 6, 7, 8] [] rfl rfl (by decide) (by decide) hk1 hFc hP1 hD1
      generalize H1 = H at hP hS ⊢
      have hP : va_P (dC, dI) classes (wX a k (nI wn) (nI mn) (nI (takeT wn fk fa nn.toInt64 T).1.1) fk fa sl1 ks1 ct1 sm1 le1 gr1) H := hP
      have hD : va_D A (wX a k (nI wn) (nI mn) (nI (takeT wn fk fa nn.toInt64 T).1.1) fk fa sl1 ks1 ct1 sm1 le1 gr1) := hD
      refine lv_if_eq (tgt := 36) hx hb dX_add_26 (by decide) (fun h3 => ?_) (fun h3 => ?_)
      · skip
        rw [hw] at h3
        have hb9 : ¬ (takeT wn fk fa nn.toInt64 T).2 = true := fun q => by rw [if_pos q] at h3; exact absurd h3 (by decide)
        refine lv_bipush (v := (-2)) hx hb dX_add_36 (by decide) ?_
        refine vx_ret ?_
        refine W.widen (k := 1) (n := 6) (Nat.zero_le _) (Nat.zero_le _) ?_
        exact W.iret (v := (-2)) hx hb hr (fun t9 ht9 hW9 => ⟨⟨(-2), (), rfl, ⟨⟨Int32.not_lt.mp h1, h2⟩, (if_neg hb9).symm⟩, ⟨σ1, sl1, ks1, ct1, sm1, le1, gr1, ⟨hσ1, hr1⟩, by rw [ht9]; exact hP, va_K.moved hW9.alike hK, hD⟩⟩, hS.F ht9⟩) hS.2.2 dX_add_38
      · skip
        rw [hw] at h3
        have hb9 : (takeT wn fk fa nn.toInt64 T).2 = true := by
          by_cases q : (takeT wn fk fa nn.toInt64 T).2 = true
          · exact q
          · rw [if_neg q] at h3; exact absurd rfl h3
        refine lv_aload_n hx hb dX_add_29 rfl (lv_at hl 0 rfl) ?_
        refine va_get (D := (dC, dI)) (ci := 0) (v := .int (nI (takeT wn fk fa nn.toInt64 T).1.1)) (C := "GroupRows") (T := FX) (N := 11) hx hb hta inX hown hK hP 0 rfl rfl 2 (by decide) (hta _ w21) (fun _ h9 => h9) rfl dX_add_30 ?_
        refine lv_goto (tgt := 38) hx hb dX_add_33 (by decide) ?_
        refine vx_ret ?_
        refine W.widen (k := 1) (n := 6) (Nat.zero_le _) (Nat.zero_le _) ?_
        exact W.iret (v := (nI (takeT wn fk fa nn.toInt64 T).1.1)) hx hb hr (fun t9 ht9 hW9 => ⟨⟨(nI (takeT wn fk fa nn.toInt64 T).1.1), (), rfl, ⟨⟨Int32.not_lt.mp h1, h2⟩, (if_pos hb9).symm⟩, ⟨σ1, sl1, ks1, ct1, sm1, le1, gr1, ⟨hσ1, hr1⟩, by rw [ht9]; exact hP, va_K.moved hW9.alike hK, hD⟩⟩, hS.F ht9⟩) hS.2.2 dX_add_38
    · skip
      exact gx_throw (is := 75) (text := "n is not 1 .. 100000") hx hb hnt hown hta hT hS (hl.1.trans hml.symm) (by decide) dX_add_11 dX_add_14 dX_add_15 dX_add_17 dX_add_20 hno (Nat.le_of_ble_eq_true rfl) (Nat.le_of_ble_eq_true rfl) (Nat.le_of_ble_eq_true rfl) (Nat.le_of_ble_eq_true rfl) hlocks (fun t9 hv9 hz9 hk9 => ⟨(), fun q => h2 q.2, ⟨rfl, gx_P hP hk9, va_K.moved hv9 hK, hD⟩, gx_F hS hz9 hk9⟩) hS.2.2 (Nat.le_of_ble_eq_true rfl) (Nat.le_of_ble_eq_true rfl)
set_option maxHeartbeats 4000000 in
set_option maxRecDepth 100000 in
theorem c_rows (l : Launch) (dC : Nat → ClassId) (dI : Nat → Nat → Nat) (a : Nat → Nat) (k : Nat → ClassId) (w ms n : Int32) (fk : Nat → Int32) (fa : Nat → Int64) (sl ks : Nat → Int32) (ct sm le gr : Nat → Int64) : Met l yX_rows (Cond.code yX_rows bX_rows 1 (some .int) :: wAll) rm0 (va_Pc [.ref (a 0)] (fun U => va_P (dC, dI) classes (wX a k w ms n fk fa sl ks ct sm le gr) U.heap ∧ va_K (dC, dI) classes (kX k) U)) (QcV (.int n)) 0 0 (fun _ => False) := by
  refine Met.ofW (cc := bX_rows) (maxL := 1) (ret := (some .int)) (by decide) rfl ?_
  intro p e s m args below meth c s₁ B hml hv
  obtain ⟨rfl, hP, hK⟩ := hv
  have hx := B.exec
  have hb := B.bytes
  have hr := B.returns
  have hta : ∀ w ∈ wAll, w.before ([.ref (a 0)] : List Value).toArray s = true := fun w h => atoms_spec (ws := (Cond.code yX_rows bX_rows 1 (some .int) :: wAll)) B.pre w (List.mem_cons_of_mem _ h)
  have hown : s.vm.findClass "GroupRows" = some m.cls := findClass_of_methodNamed B.named
  have hlocks := B.notSynchronized
  have hP : va_P (dC, dI) classes (wX a k w ms n fk fa sl ks ct sm le gr) s.heap := hP
  have hl := lv_entry ([.ref (a 0)]) (n := 1) (Nat.le_of_ble_eq_true rfl)
  rw [lg_entry_eq]
  generalize (lg_sl ([.ref (a 0)]) ++ List.replicate (1 - (lg_sl ([.ref (a 0)])).length) Slot.unset).toArray = ls at hl ⊢
  have hl : lv_has ls 1 [(0, .ref (a 0))] := hl
  refine lv_aload_n hx hb dX_rows_0 rfl (lv_at hl 0 rfl) ?_
  refine va_get (D := (dC, dI)) (ci := 0) (v := .int n) (C := "GroupRows") (T := FX) (N := 11) hx hb hta inX hown hK hP 0 rfl rfl 2 (by decide) (hta _ w21) (fun _ h9 => h9) rfl dX_rows_1 ?_
  exact W.iret hx hb hr (fun t9 ht9 hW9 => ⟨congrArg (fun z => Outcome.returned (some (Value.int z))) (rfl), ht9⟩) (fun _ h => by cases h) dX_rows_4
set_option maxHeartbeats 4000000 in
set_option maxRecDepth 100000 in
theorem c_find (l : Launch) (dC : Nat → ClassId) (dI : Nat → Nat → Nat) (a : Nat → Nat) (k : Nat → ClassId) (wn mn : Nat) (fk : Nat → Int32) (fa : Nat → Int64) (T : TB) (σ : Nat → Nat) (sl ks : Nat → Int32) (ct sm le gr : Nat → Int64) (hσ : perm σ sl) (hrep : repT σ wn mn T ks ct sm le gr) : Met l yX_find (Cond.code yX_find bX_find 2 (some .int) :: wAll) { frames := 3, cells := 0, slots := 0, locals := 128 } (va_Pc [.ref (a 0)] (fun U => va_P (dC, dI) classes (wX a k (nI wn) (nI mn) (nI T.1) fk fa sl ks ct sm le gr) U.heap ∧ va_K (dC, dI) classes (kX k) U)) (QcV (.int (if lowP wn T.1 T.2.1 fk < T.1 ∧ lx (T.2.1 (lowP wn T.1 T.2.1 fk)) fk wn 0 = 0 then nI (lowP wn T.1 T.2.1 fk) else (-1)))) 0 0 (fun _ => False) := by
  refine Met.ofW (cc := bX_find) (maxL := 2) (ret := (some .int)) (by decide) rfl ?_
  intro p e s m args below meth c s₁ B hml hv
  obtain ⟨rfl, hP, hK⟩ := hv
  have hx := B.exec
  have hb := B.bytes
  have hr := B.returns
  have hta : ∀ w ∈ wAll, w.before ([.ref (a 0)] : List Value).toArray s = true := fun w h => atoms_spec (ws := (Cond.code yX_find bX_find 2 (some .int) :: wAll)) B.pre w (List.mem_cons_of_mem _ h)
  have hown : s.vm.findClass "GroupRows" = some m.cls := findClass_of_methodNamed B.named
  have hlocks := B.notSynchronized
  have hP : va_P (dC, dI) classes (wX a k (nI wn) (nI mn) (nI T.1) fk fa sl ks ct sm le gr) s.heap := hP
  have hl := lv_entry ([.ref (a 0)]) (n := 2) (Nat.le_of_ble_eq_true rfl)
  rw [lg_entry_eq]
  generalize (lg_sl ([.ref (a 0)]) ++ List.replicate (2 - (lg_sl ([.ref (a 0)])).length) Slot.unset).toArray = ls at hl ⊢
  have hl : lv_has ls 2 [(0, .ref (a 0))] := hl
  obtain ⟨⟨hwn, hmn1, hmn, hn⟩, -⟩ := id hrep
  have hlow := rep_low (fk := fk) hrep
  obtain ⟨ps, eps⟩ : ∃ ps, ps = lowP wn T.1 T.2.1 fk := ⟨_, rfl⟩
  rw [← eps] at hlow
  have hps := hlow.1
  refine lv_aload_n hx hb dX_find_0 rfl (lv_at hl 0 rfl) ?_
  refine lv_aload_n hx hb dX_find_1 rfl (lv_at hl 0 rfl) ?_
  refine va_get (D := (dC, dI)) (ci := 0) (v := .ref (a 1)) (C := "GroupRows") (T := FX) (N := 11) hx hb hta inX hown hK hP 0 rfl rfl 3 (by decide) (hta _ w22) (fun _ h9 => h9) rfl dX_find_2 ?_
  refine lv_iconst (v := 0) hx hb dX_find_5 (by decide) ?_
  refine gi_as (y := nI 0) (nI_0.symm) ?_
  refine lv_aload_n hx hb dX_find_6 rfl (lv_at hl 0 rfl) ?_
  refine va_get (D := (dC, dI)) (ci := 0) (v := .int (nI T.1)) (C := "GroupRows") (T := FX) (N := 11) hx hb hta inX hown hK hP 0 rfl rfl 2 (by decide) (hta _ w21) (fun _ h9 => h9) rfl dX_find_7 ?_
  refine gi_callR (v := .int (nI ps)) (W.runV (As := [.ref (a 1), .int (nI 0), .int (nI T.1)]) (rest := []) ⟨hx, hb, hml, hown, hta⟩ (c_lowerPlaceF l dC dI a k wn (nI mn) (nI T.1) fk fa sl ks ct sm le gr σ 0 T.1 ps hwn hσ (by omega) hn hlow) (cwV 3 hta (gV w63 w65 sX_lowerPlace w1 w66) rfl rfl rfl (by decide +kernel) ⟨Nat.le_of_ble_eq_true rfl, Nat.le_of_ble_eq_true rfl⟩) ⟨gb_R, va_recv hK hP (ci := 0) (q0 := 0) rfl rfl, fun U hU hW => ⟨rfl, by rw [hU]; exact hP, va_K.moved hW.alike hK⟩⟩ rfl rfl hl.1 rfl (lv_room (Nat.le_of_ble_eq_true rfl)) dX_find_10 ⟨Nat.le_of_ble_eq_true rfl, Nat.le_of_ble_eq_true rfl⟩) ?_
  refine lv_istore_n (lv' := [(1, .int (nI ps)), (0, .ref (a 0))]) hx hb dX_find_13 rfl hl (by decide) rfl (fun ls hl => ?_)
  refine lv_aload_n hx hb dX_find_14 rfl (lv_at hl 1 rfl) ?_
  refine lv_iload_n hx hb dX_find_15 rfl (lv_at hl 0 rfl) ?_
  refine lv_aload_n hx hb dX_find_16 rfl (lv_at hl 1 rfl) ?_
  refine va_get (D := (dC, dI)) (ci := 0) (v := .ref (a 1)) (C := "GroupRows") (T := FX) (N := 11) hx hb hta inX hown hK hP 0 rfl rfl 3 (by decide) (hta _ w22) (fun _ h9 => h9) rfl dX_find_17 ?_
  refine lv_iconst (v := 0) hx hb dX_find_20 (by decide) ?_
  refine gi_as (y := nI 0) (nI_0.symm) ?_
  refine lv_aload_n hx hb dX_find_21 rfl (lv_at hl 1 rfl) ?_
  refine va_get (D := (dC, dI)) (ci := 0) (v := .int (nI T.1)) (C := "GroupRows") (T := FX) (N := 11) hx hb hta inX hown hK hP 0 rfl rfl 2 (by decide) (hta _ w21) (fun _ h9 => h9) rfl dX_find_22 ?_
  refine gi_callR (v := .int (if ps < T.1 ∧ lx (fun i => ks (8 * σ ps + i)) (fun i => fk (0 + i)) wn 0 = 0 then 1 else 0)) (W.runV (As := [.int (nI ps), .ref (a 1), .int (nI 0), .int (nI T.1)]) (rest := []) ⟨hx, hb, hml, hown, hta⟩ (c_isKeyAtF l dC dI a k wn (nI mn) (nI T.1) fk fa sl ks ct sm le gr σ ps 0 T.1 hwn hσ (by omega) (by omega) hn) (cwV 4 hta (gV w74 w76 sX_isKeyAt w1 w77) rfl rfl rfl (by decide +kernel) ⟨Nat.le_of_ble_eq_true rfl, Nat.le_of_ble_eq_true rfl⟩) ⟨gb_R, va_recv hK hP (ci := 0) (q0 := 0) rfl rfl, fun U hU hW => ⟨rfl, by rw [hU]; exact hP, va_K.moved hW.alike hK⟩⟩ rfl rfl hl.1 rfl (lv_room (Nat.le_of_ble_eq_true rfl)) dX_find_25 ⟨Nat.le_of_ble_eq_true rfl, Nat.le_of_ble_eq_true rfl⟩) ?_
  refine lv_if_eq (tgt := 35) hx hb dX_find_28 (by decide) (fun h1 => ?_) (fun h1 => ?_)
  · skip
    have hc : ¬ (lowP wn T.1 T.2.1 fk < T.1 ∧ lx (T.2.1 (lowP wn T.1 T.2.1 fk)) fk wn 0 = 0) := fun q => by rw [← eps] at q; rw [if_pos ((rep_has hrep).mpr q)] at h1; exact absurd h1 (by decide)
    refine lv_iconst (v := (-1)) hx hb dX_find_35 (by decide) ?_
    exact W.iret hx hb hr (fun t9 ht9 hW9 => ⟨congrArg (fun z => Outcome.returned (some (Value.int z))) ((if_neg hc).symm), ht9⟩) (fun _ h => by cases h) dX_find_36
  · skip
    have hc : lowP wn T.1 T.2.1 fk < T.1 ∧ lx (T.2.1 (lowP wn T.1 T.2.1 fk)) fk wn 0 = 0 := by
      by_cases q : ps < T.1 ∧ lx (fun i => ks (8 * σ ps + i)) (fun i => fk (0 + i)) wn 0 = 0
      · have := (rep_has hrep).mp q
        rw [eps] at this; exact this
      · rw [if_neg q] at h1; exact absurd rfl h1
    refine lv_iload_n hx hb dX_find_31 rfl (lv_at hl 0 rfl) ?_
    refine lv_goto (tgt := 36) hx hb dX_find_32 (by decide) ?_
    exact W.iret hx hb hr (fun t9 ht9 hW9 => ⟨congrArg (fun z => Outcome.returned (some (Value.int z))) (by rw [if_pos hc, eps]), ht9⟩) (fun _ h => by cases h) dX_find_36
end
section
set_option maxHeartbeats 4000000 in
set_option maxRecDepth 100000 in
/-- Arrays.fill -/
theorem c_JA_fillI (l : Launch) (dC : Nat → ClassId) (dI : Nat → Nat → Nat) (x0 : Nat) (kx : ClassId) (f : Nat → Int32) (v : Int32) (sz : Nat)  : Met l yJA_fillI (Cond.code yJA_fillI bJA_fillI 4 none :: wAll) rm0 (va_Pc [.ref x0, .int v] (fun U => U.heap.size = sz ∧ va_P (dC, dI) classes [(x0, .inl (kx, 8, .inl f))] U.heap ∧ va_K (dC, dI) classes [(kx, .int)] U ∧ va_D (fun _ => True) [(x0, .inl (kx, 8, .inl f))])) (va_Qv (fun _ : Unit => True) (fun (_ : Unit) (t9 : State) => va_P (dC, dI) classes [(x0, .inl (kx, 8, .inl (upToI (fun _ _ => v) 0 f 8)))] t9.heap ∧ va_K (dC, dI) classes [(kx, .int)] t9 ∧ va_D (va_A [(x0, .inl (kx, 8, .inl f))] sz) [(x0, .inl (kx, 8, .inl (upToI (fun _ _ => v) 0 f 8)))]) (va_A [(x0, .inl (kx, 8, .inl f))] sz)) 0 0 (va_A [(x0, .inl (kx, 8, .inl f))] sz) := by
  refine va_MetF (cc := bJA_fillI) (maxL := 4) (ret := none) (by decide) rfl ?_
  intro p e s m args below meth c s₁ B hml hv
  obtain ⟨rfl, hsz, hP, hK, hD0⟩ := hv
  have hx := B.exec
  have hb := B.bytes
  have hr := B.returns
  have hta : ∀ w ∈ wAll, w.before ([.ref x0, .int v] : List Value).toArray s = true := fun w h => atoms_spec (ws := (Cond.code yJA_fillI bJA_fillI 4 none :: wAll)) B.pre w (List.mem_cons_of_mem _ h)
  have hown : s.vm.findClass "java/util/Arrays" = some m.cls := findClass_of_methodNamed B.named
  have hlocks := B.notSynchronized
  subst hsz
  have hD := hD0.self (sz := s.heap.size)
  generalize hAe : va_A [(x0, .inl (kx, 8, .inl f))] s.heap.size = A at hD ⊢
  have hA : ∀ q : Nat, s.heap.size ≤ q → A q := fun q h => by rw [← hAe]; exact Or.inr h
  have hS : va_S A s.heap s.heap [] := va_S.rf
  have hP : va_P (dC, dI) classes [(x0, .inl (kx, 8, .inl f))] s.heap := hP
  have hl := lv_entry ([.ref x0, .int v]) (n := 4) (Nat.le_of_ble_eq_true rfl)
  rw [lg_entry_eq]
  generalize (lg_sl ([.ref x0, .int v]) ++ List.replicate (4 - (lg_sl ([.ref x0, .int v])).length) Slot.unset).toArray = ls at hl ⊢
  have hl : lv_has ls 4 [(0, .ref x0), (1, .int v)] := hl
  refine lv_iconst (v := 0) hx hb dJA_fillI_0 (by decide) ?_
  refine gi_as (y := nI 0) (nI_0.symm) ?_
  refine lv_istore_n (lv' := [(2, .int (nI 0)), (0, .ref x0), (1, .int v)]) hx hb dJA_fillI_1 rfl hl (by decide) rfl (fun ls hl => ?_)
  refine lv_aload_n hx hb dJA_fillI_2 rfl (lv_at hl 1 rfl) ?_
  refine va_alen (v := nI 8) hx hb hK hP 0 0 rfl rfl rfl dJA_fillI_3 ?_
  refine lv_istore_n (lv' := [(3, .int (nI 8)), (2, .int (nI 0)), (0, .ref x0), (1, .int v)]) hx hb dJA_fillI_4 rfl hl (by decide) rfl (fun ls hl => ?_)
  have loop : ∀ (kk j : Nat), j + kk = 8 → ∀ (H : Heap) (locs : List Loc), va_P (dC, dI) classes [(x0, .inl (kx, 8, .inl (upToI (fun _ _ => v) 0 f j)))] H → va_D A [(x0, .inl (kx, 8, .inl (upToI (fun _ _ => v) 0 f j)))] → va_S A s.heap H locs → ∀ (ls : Array Slot), lv_has ls 4 [(2, .int (nI j)), (3, .int (nI 8)), (0, .ref x0), (1, .int v)] → W p l e (headSpec (Cond.code yJA_fillI bJA_fillI 4 none :: wAll) rm0).room s m ([.ref x0, .int v] : List Value).toArray below meth c H locs 0 0 (MQ below (va_Qv (fun _ : Unit => True) (fun (_ : Unit) (t9 : State) => va_P (dC, dI) classes [(x0, .inl (kx, 8, .inl (upToI (fun _ _ => v) 0 f 8)))] t9.heap ∧ va_K (dC, dI) classes [(kx, .int)] t9 ∧ va_D A [(x0, .inl (kx, 8, .inl (upToI (fun _ _ => v) 0 f 8)))]) A) ([.ref x0, .int v] : List Value).toArray s 0 0 A) (F0 m 5 ls []) := by
    intro kk
    induction kk with
    | zero =>
      intro j hj H locs hP hD hS ls hl
      refine lv_iload_n hx hb dJA_fillI_5 rfl (lv_at hl 0 rfl) ?_
      refine lv_iload_n hx hb dJA_fillI_6 rfl (lv_at hl 1 rfl) ?_
      refine lv_icmp_ge (tgt := 20) hx hb dJA_fillI_7 (by decide) (fun h1 => ?_) (fun h1 => ?_)
      · skip
        have hj : 8 = j := by omega
        subst hj
        have hP : va_P (dC, dI) classes [(x0, .inl (kx, 8, .inl (upToI (fun _ _ => v) 0 f 8)))] H := hP
        have hD : va_D A [(x0, .inl (kx, 8, .inl (upToI (fun _ _ => v) 0 f 8)))] := hD
        exact W.vret hx hb hr (fun t9 ht9 hW9 => ⟨⟨(), rfl, trivial, by rw [ht9]; exact hP, va_K.moved hW9.alike hK, hD⟩, hS.F ht9⟩) hS.2.2 dJA_fillI_20
      · skip
        exact absurd (nI_le (by omega) (by omega)) h1
    | succ kk ih =>
      intro j hj H locs hP hD hS ls hl
      refine lv_iload_n hx hb dJA_fillI_5 rfl (lv_at hl 0 rfl) ?_
      refine lv_iload_n hx hb dJA_fillI_6 rfl (lv_at hl 1 rfl) ?_
      refine lv_icmp_ge (tgt := 20) hx hb dJA_fillI_7 (by decide) (fun h1 => ?_) (fun h1 => ?_)
      · skip
        exact absurd h1 (nI_ge (a := j) (by omega) (by omega))
      · skip
        have e0 : j = 0 + j := by omega
        refine lv_aload_n hx hb dJA_fillI_10 rfl (lv_at hl 2 rfl) ?_
        refine lv_iload_n hx hb dJA_fillI_11 rfl (lv_at hl 0 rfl) ?_
        refine gi_as (y := nI (0 + j)) (by rw [← e0]) ?_
        refine lv_iload_n hx hb dJA_fillI_12 rfl (lv_at hl 3 rfl) ?_
        refine gi_iast hx hb hK hP hD hS 0 0 rfl rfl (k := (0 + j)) (by omega) (by decide) dJA_fillI_13 (fun H locs hP hD hS => ?_)
        have hP : va_P (dC, dI) classes [(x0, .inl (kx, 8, .inl (upd (upToI (fun _ _ => v) 0 f j) (0 + j) v)))] H := hP
        have hD : va_D A [(x0, .inl (kx, 8, .inl (upd (upToI (fun _ _ => v) 0 f j) (0 + j) v)))] := hD
        refine lv_iinc (v := (nI (j + 1))) (lv' := [(2, .int (nI (j + 1))), (3, .int (nI 8)), (0, .ref x0), (1, .int v)]) hx hb dJA_fillI_14 hl (k := 0) rfl (nI_1 _) (by decide) rfl (fun ls hl => ?_)
        refine lv_goto (tgt := 5) hx hb dJA_fillI_17 (by decide) ?_
        have hl := lv_sub hl [0, 1, 2, 3] rfl
        have hl : lv_has ls 4 [(2, .int (nI (j + 1))), (3, .int (nI 8)), (0, .ref x0), (1, .int v)] := hl
        exact ih (j + 1) (by omega) H locs hP hD hS ls hl
  have hl := lv_sub hl [1, 0, 2, 3] rfl
  have hl : lv_has ls 4 [(2, .int (nI 0)), (3, .int (nI 8)), (0, .ref x0), (1, .int v)] := hl
  exact loop 8 0 (by omega) s.heap [] hP hD hS ls hl
set_option maxHeartbeats 4000000 in
set_option maxRecDepth 100000 in
/-- Arrays.fill -/
theorem c_JA_fillJ (l : Launch) (dC : Nat → ClassId) (dI : Nat → Nat → Nat) (x0 : Nat) (kx : ClassId) (f : Nat → Int64) (v : Int64) (sz : Nat)  : Met l yJA_fillJ (Cond.code yJA_fillJ bJA_fillJ 5 none :: wAll) rm0 (va_Pc [.ref x0, .long v] (fun U => U.heap.size = sz ∧ va_P (dC, dI) classes [(x0, .inl (kx, 8, .inr (.inl f)))] U.heap ∧ va_K (dC, dI) classes [(kx, .long)] U ∧ va_D (fun _ => True) [(x0, .inl (kx, 8, .inr (.inl f)))])) (va_Qv (fun _ : Unit => True) (fun (_ : Unit) (t9 : State) => va_P (dC, dI) classes [(x0, .inl (kx, 8, .inr (.inl (upTo (fun _ _ => v) 0 f 8))))] t9.heap ∧ va_K (dC, dI) classes [(kx, .long)] t9 ∧ va_D (va_A [(x0, .inl (kx, 8, .inr (.inl f)))] sz) [(x0, .inl (kx, 8, .inr (.inl (upTo (fun _ _ => v) 0 f 8))))]) (va_A [(x0, .inl (kx, 8, .inr (.inl f)))] sz)) 0 0 (va_A [(x0, .inl (kx, 8, .inr (.inl f)))] sz) := by
  refine va_MetF (cc := bJA_fillJ) (maxL := 5) (ret := none) (by decide) rfl ?_
  intro p e s m args below meth c s₁ B hml hv
  obtain ⟨rfl, hsz, hP, hK, hD0⟩ := hv
  have hx := B.exec
  have hb := B.bytes
  have hr := B.returns
  have hta : ∀ w ∈ wAll, w.before ([.ref x0, .long v] : List Value).toArray s = true := fun w h => atoms_spec (ws := (Cond.code yJA_fillJ bJA_fillJ 5 none :: wAll)) B.pre w (List.mem_cons_of_mem _ h)
  have hown : s.vm.findClass "java/util/Arrays" = some m.cls := findClass_of_methodNamed B.named
  have hlocks := B.notSynchronized
  subst hsz
  have hD := hD0.self (sz := s.heap.size)
  generalize hAe : va_A [(x0, .inl (kx, 8, .inr (.inl f)))] s.heap.size = A at hD ⊢
  have hA : ∀ q : Nat, s.heap.size ≤ q → A q := fun q h => by rw [← hAe]; exact Or.inr h
  have hS : va_S A s.heap s.heap [] := va_S.rf
  have hP : va_P (dC, dI) classes [(x0, .inl (kx, 8, .inr (.inl f)))] s.heap := hP
  have hl := lv_entry ([.ref x0, .long v]) (n := 5) (Nat.le_of_ble_eq_true rfl)
  rw [lg_entry_eq]
  generalize (lg_sl ([.ref x0, .long v]) ++ List.replicate (5 - (lg_sl ([.ref x0, .long v])).length) Slot.unset).toArray = ls at hl ⊢
  have hl : lv_has ls 5 [(0, .ref x0), (1, .long v)] := hl
  refine lv_iconst (v := 0) hx hb dJA_fillJ_0 (by decide) ?_
  refine gi_as (y := nI 0) (nI_0.symm) ?_
  refine lv_istore_n (lv' := [(3, .int (nI 0)), (0, .ref x0), (1, .long v)]) hx hb dJA_fillJ_1 rfl hl (by decide) rfl (fun ls hl => ?_)
  refine lv_aload_n hx hb dJA_fillJ_2 rfl (lv_at hl 1 rfl) ?_
  refine va_alen (v := nI 8) hx hb hK hP 0 0 rfl rfl rfl dJA_fillJ_3 ?_
  refine lv_istore (lv' := [(4, .int (nI 8)), (3, .int (nI 0)), (0, .ref x0), (1, .long v)]) hx hb dJA_fillJ_4 hl (by decide) rfl (fun ls hl => ?_)
  have loop : ∀ (kk j : Nat), j + kk = 8 → ∀ (H : Heap) (locs : List Loc), va_P (dC, dI) classes [(x0, .inl (kx, 8, .inr (.inl (upTo (fun _ _ => v) 0 f j))))] H → va_D A [(x0, .inl (kx, 8, .inr (.inl (upTo (fun _ _ => v) 0 f j))))] → va_S A s.heap H locs → ∀ (ls : Array Slot), lv_has ls 5 [(3, .int (nI j)), (4, .int (nI 8)), (0, .ref x0), (1, .long v)] → W p l e (headSpec (Cond.code yJA_fillJ bJA_fillJ 5 none :: wAll) rm0).room s m ([.ref x0, .long v] : List Value).toArray below meth c H locs 0 0 (MQ below (va_Qv (fun _ : Unit => True) (fun (_ : Unit) (t9 : State) => va_P (dC, dI) classes [(x0, .inl (kx, 8, .inr (.inl (upTo (fun _ _ => v) 0 f 8))))] t9.heap ∧ va_K (dC, dI) classes [(kx, .long)] t9 ∧ va_D A [(x0, .inl (kx, 8, .inr (.inl (upTo (fun _ _ => v) 0 f 8))))]) A) ([.ref x0, .long v] : List Value).toArray s 0 0 A) (F0 m 6 ls []) := by
    intro kk
    induction kk with
    | zero =>
      intro j hj H locs hP hD hS ls hl
      refine lv_iload_n hx hb dJA_fillJ_6 rfl (lv_at hl 0 rfl) ?_
      refine lv_iload hx hb dJA_fillJ_7 (lv_at hl 1 rfl) ?_
      refine lv_icmp_ge (tgt := 22) hx hb dJA_fillJ_9 (by decide) (fun h1 => ?_) (fun h1 => ?_)
      · skip
        have hj : 8 = j := by omega
        subst hj
        have hP : va_P (dC, dI) classes [(x0, .inl (kx, 8, .inr (.inl (upTo (fun _ _ => v) 0 f 8))))] H := hP
        have hD : va_D A [(x0, .inl (kx, 8, .inr (.inl (upTo (fun _ _ => v) 0 f 8))))] := hD
        exact W.vret hx hb hr (fun t9 ht9 hW9 => ⟨⟨(), rfl, trivial, by rw [ht9]; exact hP, va_K.moved hW9.alike hK, hD⟩, hS.F ht9⟩) hS.2.2 dJA_fillJ_22
      · skip
        exact absurd (nI_le (by omega) (by omega)) h1
    | succ kk ih =>
      intro j hj H locs hP hD hS ls hl
      refine lv_iload_n hx hb dJA_fillJ_6 rfl (lv_at hl 0 rfl) ?_
      refine lv_iload hx hb dJA_fillJ_7 (lv_at hl 1 rfl) ?_
      refine lv_icmp_ge (tgt := 22) hx hb dJA_fillJ_9 (by decide) (fun h1 => ?_) (fun h1 => ?_)
      · skip
        exact absurd h1 (nI_ge (a := j) (by omega) (by omega))
      · skip
        have e0 : j = 0 + j := by omega
        refine lv_aload_n hx hb dJA_fillJ_12 rfl (lv_at hl 2 rfl) ?_
        refine lv_iload_n hx hb dJA_fillJ_13 rfl (lv_at hl 0 rfl) ?_
        refine gi_as (y := nI (0 + j)) (by rw [← e0]) ?_
        refine lv_lload_n hx hb dJA_fillJ_14 rfl (lv_at hl 3 rfl) ?_
        refine gi_last hx hb hK hP hD hS 0 0 rfl rfl (k := (0 + j)) (by omega) (by decide) dJA_fillJ_15 (fun H locs hP hD hS => ?_)
        have hP : va_P (dC, dI) classes [(x0, .inl (kx, 8, .inr (.inl (vp_updL (upTo (fun _ _ => v) 0 f j) (0 + j) v))))] H := hP
        have hD : va_D A [(x0, .inl (kx, 8, .inr (.inl (vp_updL (upTo (fun _ _ => v) 0 f j) (0 + j) v))))] := hD
        refine lv_iinc (v := (nI (j + 1))) (lv' := [(3, .int (nI (j + 1))), (4, .int (nI 8)), (0, .ref x0), (1, .long v)]) hx hb dJA_fillJ_16 hl (k := 0) rfl (nI_1 _) (by decide) rfl (fun ls hl => ?_)
        refine lv_goto (tgt := 6) hx hb dJA_fillJ_19 (by decide) ?_
        have hl := lv_sub hl [0, 1, 2, 3] rfl
        have hl : lv_has ls 5 [(3, .int (nI (j + 1))), (4, .int (nI 8)), (0, .ref x0), (1, .long v)] := hl
        exact ih (j + 1) (by omega) H locs hP hD hS ls hl
  have hl := lv_sub hl [1, 0, 2, 3] rfl
  have hl : lv_has ls 5 [(3, .int (nI 0)), (4, .int (nI 8)), (0, .ref x0), (1, .long v)] := hl
  exact loop 8 0 (by omega) s.heap [] hP hD hS ls hl
set_option maxHeartbeats 4000000 in
set_option maxRecDepth 100000 in
/-- begin -/
theorem c_begin (l : Launch) (hnt : l.stackTraces = false) (dC : Nat → ClassId) (dI : Nat → Nat → Nat) (a : Nat → Nat) (k : Nat → ClassId) (wn mn : Nat) (fk : Nat → Int32) (fa : Nat → Int64) (T : TB) (σ : Nat → Nat) (sl ks : Nat → Int32) (ct sm le gr : Nat → Int64) (hσ : perm σ sl) (hrep : repT σ wn mn T ks ct sm le gr) (w0 m0 : Int32) (sz : Nat) : vx_Met l yX_begin (Cond.code yX_begin bX_begin 3 none :: wAll) { frames := 6, cells := 1, slots := 6, locals := 160 } (va_Pc [.ref (a 0), .int w0, .int m0] (fun U => U.heap.size = sz ∧ va_P (dC, dI) classes (wX a k (nI wn) (nI mn) (nI T.1) fk fa sl ks ct sm le gr) U.heap ∧ va_K (dC, dI) classes (kX k) U ∧ va_D (fun _ => True) (wX a k (nI wn) (nI mn) (nI T.1) fk fa sl ks ct sm le gr) ∧ thrE (va_A (wX a k (nI wn) (nI mn) (nI T.1) fk fa sl ks ct sm le gr) sz) U U.heap)) (va_Qv (fun _ : Unit => ((0 ≤ w0 ∧ w0 ≤ 8) ∧ 1 ≤ m0 ∧ m0 ≤ 8) ∧ True) (fun (_ : Unit) (t9 : State) => atX dC dI (va_A (wX a k (nI wn) (nI mn) (nI T.1) fk fa sl ks ct sm le gr) sz) a k w0.toNatClampNeg m0.toNatClampNeg (upToI (fun _ _ => 0) 0 fk 8) (upTo (fun _ _ => 0) 0 fa 8) (0, T.2) t9) (va_A (wX a k (nI wn) (nI mn) (nI T.1) fk fa sl ks ct sm le gr) sz)) (vx_X (fun _ : Unit => ¬ ((0 ≤ w0 ∧ w0 ≤ 8) ∧ 1 ≤ m0 ∧ m0 ≤ 8)) (fun (E9 : String) (_ : Unit) (t9 : State) => E9 = "java/lang/IllegalArgumentException" ∧ va_P (dC, dI) classes (wX a k (nI wn) (nI mn) (nI T.1) fk fa sl ks ct sm le gr) t9.heap ∧ va_K (dC, dI) classes (kX k) t9 ∧ va_D (va_A (wX a k (nI wn) (nI mn) (nI T.1) fk fa sl ks ct sm le gr) sz) (wX a k (nI wn) (nI mn) (nI T.1) fk fa sl ks ct sm le gr)) (va_A (wX a k (nI wn) (nI mn) (nI T.1) fk fa sl ks ct sm le gr) sz)) 1 6 (va_A (wX a k (nI wn) (nI mn) (nI T.1) fk fa sl ks ct sm le gr) sz) := by
  refine vx_ofW (cc := bX_begin) (maxL := 3) (ret := none) (by decide) rfl ?_
  intro p e s m args below meth c s₁ B hml hno hv
  obtain ⟨rfl, hsz, hP, hK, hD0, hT⟩ := hv
  have hx := B.exec
  have hb := B.bytes
  have hr := B.returns
  have hta : ∀ w ∈ wAll, w.before ([.ref (a 0), .int w0, .int m0] : List Value).toArray s = true := fun w h => atoms_spec (ws := (Cond.code yX_begin bX_begin 3 none :: wAll)) B.pre w (List.mem_cons_of_mem _ h)
  have hown : s.vm.findClass "GroupRows" = some m.cls := findClass_of_methodNamed B.named
  have hlocks := B.notSynchronized
  subst hsz
  have hD := hD0.self (sz := s.heap.size)
  generalize hAe : va_A (wX a k (nI wn) (nI mn) (nI T.1) fk fa sl ks ct sm le gr) s.heap.size = A at hD hT ⊢
  have hA : ∀ q : Nat, s.heap.size ≤ q → A q := fun q h => by rw [← hAe]; exact Or.inr h
  have hS : va_S A s.heap s.heap [] := va_S.rf
  have hP : va_P (dC, dI) classes (wX a k (nI wn) (nI mn) (nI T.1) fk fa sl ks ct sm le gr) s.heap := hP
  have hl := lv_entry ([.ref (a 0), .int w0, .int m0]) (n := 3) (Nat.le_of_ble_eq_true rfl)
  rw [lg_entry_eq]
  generalize (lg_sl ([.ref (a 0), .int w0, .int m0]) ++ List.replicate (3 - (lg_sl ([.ref (a 0), .int w0, .int m0])).length) Slot.unset).toArray = ls at hl ⊢
  have hl : lv_has ls 3 [(0, .ref (a 0)), (1, .int w0), (2, .int m0)] := hl
  obtain ⟨⟨hwn, hmn1, hmn, hn⟩, hk9, hc9, hv9, hs9⟩ := id hrep
  refine lv_iload_n hx hb dX_begin_0 rfl (lv_at hl 1 rfl) ?_
  refine lv_if_lt (tgt := 10) hx hb dX_begin_1 (by decide) (fun h1 => ?_) (fun h1 => ?_)
  · skip
    exact gx_throw (is := 47) (text := "width is not 0 .. 8") hx hb hnt hown hta hT hS (hl.1.trans hml.symm) (by decide) dX_begin_10 dX_begin_13 dX_begin_14 dX_begin_16 dX_begin_19 hno (Nat.le_of_ble_eq_true rfl) (Nat.le_of_ble_eq_true rfl) (Nat.le_of_ble_eq_true rfl) (Nat.le_of_ble_eq_true rfl) hlocks (fun t9 hv9 hz9 hk9 => ⟨(), fun q => absurd q.1.1 (Int32.not_le.mpr h1), ⟨rfl, gx_P hP hk9, va_K.moved hv9 hK, hD⟩, gx_F hS hz9 hk9⟩) hS.2.2 (Nat.le_of_ble_eq_true rfl) (Nat.le_of_ble_eq_true rfl)
  · skip
    refine lv_iload_n hx hb dX_begin_4 rfl (lv_at hl 1 rfl) ?_
    refine lv_bipush (v := 8) hx hb dX_begin_5 (by decide) ?_
    refine lv_icmp_le (tgt := 20) hx hb dX_begin_7 (by decide) (fun h2 => ?_) (fun h2 => ?_)
    · skip
      refine lv_iload_n hx hb dX_begin_20 rfl (lv_at hl 2 rfl) ?_
      refine lv_iconst (v := 1) hx hb dX_begin_21 (by decide) ?_
      refine lv_icmp_lt (tgt := 31) hx hb dX_begin_22 (by decide) (fun h3 => ?_) (fun h3 => ?_)
      · skip
        exact gx_throw (is := 52) (text := "measures is not 1 .. 8") hx hb hnt hown hta hT hS (hl.1.trans hml.symm) (by decide) dX_begin_31 dX_begin_34 dX_begin_35 dX_begin_37 dX_begin_40 hno (Nat.le_of_ble_eq_true rfl) (Nat.le_of_ble_eq_true rfl) (Nat.le_of_ble_eq_true rfl) (Nat.le_of_ble_eq_true rfl) hlocks (fun t9 hv9 hz9 hk9 => ⟨(), fun q => absurd q.2.1 (Int32.not_le.mpr h3), ⟨rfl, gx_P hP hk9, va_K.moved hv9 hK, hD⟩, gx_F hS hz9 hk9⟩) hS.2.2 (Nat.le_of_ble_eq_true rfl) (Nat.le_of_ble_eq_true rfl)
      · skip
        refine lv_iload_n hx hb dX_begin_25 rfl (lv_at hl 2 rfl) ?_
        refine lv_bipush (v := 8) hx hb dX_begin_26 (by decide) ?_
        refine lv_icmp_le (tgt := 41) hx hb dX_begin_28 (by decide) (fun h4 => ?_) (fun h4 => ?_)
        · skip
          have hL : (0 ≤ w0 ∧ w0 ≤ 8) ∧ 1 ≤ m0 ∧ m0 ≤ 8 := ⟨⟨Int32.not_lt.mp h1, h2⟩, Int32.not_lt.mp h3, h4⟩
          obtain ⟨j, hj, ej, cj⟩ := in_le (n := 8) (by decide) hL.1
          obtain ⟨j2, hj2, ej2, cj2⟩ := in_le (n := 8) (by decide) ⟨i32_0le1 hL.2.1, hL.2.2⟩
          subst ej
          subst ej2
          have hj1 : 1 ≤ j2 := nI_1le (by omega) hL.2.1
          refine lv_aload_n hx hb dX_begin_41 rfl (lv_at hl 0 rfl) ?_
          refine lv_iload_n hx hb dX_begin_42 rfl (lv_at hl 1 rfl) ?_
          refine va_put (D := (dC, dI)) (ci := 0) (v := .int (nI j)) (ty := .int) (C := "GroupRows") (T := FX) (N := 11) hx hb hta inX tX tXok nX hown hK hP hD hS 0 rfl rfl 0 (by decide) (hta _ w19) (fun _ h9 => h9) rfl (by decide +kernel) rfl rfl (Nat.le_of_ble_eq_true rfl) dX_begin_43 (fun H locs hP hD hS => ?_)
          have hP : va_P (dC, dI) classes (wX a k (nI j) (nI mn) (nI T.1) fk fa sl ks ct sm le gr) H := hP
          have hD : va_D A (wX a k (nI j) (nI mn) (nI T.1) fk fa sl ks ct sm le gr) := hD
          refine lv_aload_n hx hb dX_begin_46 rfl (lv_at hl 0 rfl) ?_
          refine lv_iload_n hx hb dX_begin_47 rfl (lv_at hl 2 rfl) ?_
          refine va_put (D := (dC, dI)) (ci := 0) (v := .int (nI j2)) (ty := .int) (C := "GroupRows") (T := FX) (N := 11) hx hb hta inX tX tXok nX hown hK hP hD hS 0 rfl rfl 1 (by decide) (hta _ w20) (fun _ h9 => h9) rfl (by decide +kernel) rfl rfl (Nat.le_of_ble_eq_true rfl) dX_begin_48 (fun H locs hP hD hS => ?_)
          have hP : va_P (dC, dI) classes (wX a k (nI j) (nI j2) (nI T.1) fk fa sl ks ct sm le gr) H := hP
          have hD : va_D A (wX a k (nI j) (nI j2) (nI T.1) fk fa sl ks ct sm le gr) := hD
          refine lv_aload_n hx hb dX_begin_51 rfl (lv_at hl 0 rfl) ?_
          refine lv_iconst (v := 0) hx hb dX_begin_52 (by decide) ?_
          refine gi_as (y := nI 0) (nI_0.symm) ?_
          refine va_put (D := (dC, dI)) (ci := 0) (v := .int (nI 0)) (ty := .int) (C := "GroupRows") (T := FX) (N := 11) hx hb hta inX tX tXok nX hown hK hP hD hS 0 rfl rfl 2 (by decide) (hta _ w21) (fun _ h9 => h9) rfl (by decide +kernel) rfl rfl (Nat.le_of_ble_eq_true rfl) dX_begin_53 (fun H locs hP hD hS => ?_)
          have hP : va_P (dC, dI) classes (wX a k (nI j) (nI j2) (nI 0) fk fa sl ks ct sm le gr) H := hP
          have hD : va_D A (wX a k (nI j) (nI j2) (nI 0) fk fa sl ks ct sm le gr) := hD
          refine lv_aload_n hx hb dX_begin_56 rfl (lv_at hl 0 rfl) ?_
          refine va_get (D := (dC, dI)) (ci := 0) (v := .ref (a 1)) (C := "GroupRows") (T := FX) (N := 11) hx hb hta inX hown hK hP 0 rfl rfl 3 (by decide) (hta _ w22) (fun _ h9 => h9) rfl dX_begin_57 ?_
          refine lv_iconst (v := 0) hx hb dX_begin_60 (by decide) ?_
          have hPc := hP.sub (ws' := [(a 1, .inl (k 1, 8, .inl fk))]) [1] rfl
          have hDc := hD.sub (ws' := [(a 1, .inl (k 1, 8, .inl fk))]) [1] (by decide) rfl
          have hKc := hK.sub (tys' := [(k 1, .int)]) [0] rfl
          have hFc := va_free (wc := [(a 1, .inl (k 1, 8, .inl fk))]) hD hS hA [1] rfl
          refine va_callv (va_runS (As := [.ref (a 1), .int 0]) (rest := []) ⟨hx, hb, hml, hown, hta⟩ (c_JA_fillI l dC dI (a 1) (k 1) fk 0 H.size) (va_cwS 2 hta (gS w153 w154 w7 w155) rfl rfl rfl (by decide +kernel) ⟨Nat.le_of_ble_eq_true rfl, Nat.le_of_ble_eq_true rfl⟩) ⟨gb_W, fun U hU hW => ⟨rfl, by rw [hU], by rw [hU]; exact hPc, va_K.moved hW.alike hKc, hDc.weaken (fun _ _ _ _ => trivial)⟩⟩ rfl rfl hl.1 rfl (lv_room (Nat.le_of_ble_eq_true rfl)) dX_begin_61 ⟨Nat.le_of_ble_eq_true rfl, Nat.le_of_ble_eq_true rfl⟩) hS (fun q _ h => hFc q h) hFc (fun u t H1 locs ht hvm hw hB hz1 hk1 hS => ?_)
          obtain ⟨hP1, hK1, hD1⟩ := hB
          rw [ht] at hP1
          obtain ⟨hP, hD⟩ := va_join (wr := [(a 0, .inr (0, [.int (nI j), .int (nI j2), .int (nI 0), .ref (a 1), .ref (a 2), .ref (a 3), .ref (a 4), .ref (a 5), .ref (a 6), .ref (a 7), .ref (a 8)])), (a 2, .inl (k 2, 8, .inr (.inl fa))), (a 3, .inl (k 3, 1000, .inl sl)), (a 4, .inl (k 4, 8000, .inl ks)), (a 5, .inl (k 5, 1000, .inr (.inl ct))), (a 6, .inl (k 6, 8000, .inr (.inl sm))), (a 7, .inl (k 7, 8000, .inr (.inl le))), (a 8, .inl (k 8, 8000, .inr (.inl gr)))]) (w1 := [(a 1, .inl (k 1, 8, .inl (upToI (fun _ _ => 0) 0 fk 8)))]) hP hD [1] [0, 2, 3, 4, 5, 6, 7, 8] rfl rfl (by decide) (by decide) hk1 hFc hP1 hD1
          generalize H1 = H at hP hS ⊢
          have hP := hP.sub (ws' := (wX a k (nI j) (nI j2) (nI 0) (upToI (fun _ _ => 0) 0 fk 8) fa sl ks ct sm le gr)) [0, 8, 1, 2, 3, 4, 5, 6, 7] rfl
          have hD := hD.sub (ws' := (wX a k (nI j) (nI j2) (nI 0) (upToI (fun _ _ => 0) 0 fk 8) fa sl ks ct sm le gr)) [0, 8, 1, 2, 3, 4, 5, 6, 7] (by decide) rfl
          have hP : va_P (dC, dI) classes (wX a k (nI j) (nI j2) (nI 0) (upToI (fun _ _ => 0) 0 fk 8) fa sl ks ct sm le gr) H := hP
          have hD : va_D A (wX a k (nI j) (nI j2) (nI 0) (upToI (fun _ _ => 0) 0 fk 8) fa sl ks ct sm le gr) := hD
          refine lv_aload_n hx hb dX_begin_64 rfl (lv_at hl 0 rfl) ?_
          refine va_get (D := (dC, dI)) (ci := 0) (v := .ref (a 2)) (C := "GroupRows") (T := FX) (N := 11) hx hb hta inX hown hK hP 0 rfl rfl 4 (by decide) (hta _ w23) (fun _ h9 => h9) rfl dX_begin_65 ?_
          refine lv_lconst (v := 0) hx hb dX_begin_68 (by decide) ?_
          have hPc := hP.sub (ws' := [(a 2, .inl (k 2, 8, .inr (.inl fa)))]) [2] rfl
          have hDc := hD.sub (ws' := [(a 2, .inl (k 2, 8, .inr (.inl fa)))]) [2] (by decide) rfl
          have hKc := hK.sub (tys' := [(k 2, .long)]) [1] rfl
          have hFc := va_free (wc := [(a 2, .inl (k 2, 8, .inr (.inl fa)))]) hD hS hA [2] rfl
          refine va_callv (va_runS (As := [.ref (a 2), .long 0]) (rest := []) ⟨hx, hb, hml, hown, hta⟩ (c_JA_fillJ l dC dI (a 2) (k 2) fa 0 H.size) (va_cwS 2 hta (gS w156 w157 w7 w158) rfl rfl rfl (by decide +kernel) ⟨Nat.le_of_ble_eq_true rfl, Nat.le_of_ble_eq_true rfl⟩) ⟨gb_W, fun U hU hW => ⟨rfl, by rw [hU], by rw [hU]; exact hPc, va_K.moved hW.alike hKc, hDc.weaken (fun _ _ _ _ => trivial)⟩⟩ rfl rfl hl.1 rfl (lv_room (Nat.le_of_ble_eq_true rfl)) dX_begin_69 ⟨Nat.le_of_ble_eq_true rfl, Nat.le_of_ble_eq_true rfl⟩) hS (fun q _ h => hFc q h) hFc (fun u t H1 locs ht hvm hw hB hz1 hk1 hS => ?_)
          obtain ⟨hP1, hK1, hD1⟩ := hB
          rw [ht] at hP1
          obtain ⟨hP, hD⟩ := va_join (wr := [(a 0, .inr (0, [.int (nI j), .int (nI j2), .int (nI 0), .ref (a 1), .ref (a 2), .ref (a 3), .ref (a 4), .ref (a 5), .ref (a 6), .ref (a 7), .ref (a 8)])), (a 1, .inl (k 1, 8, .inl (upToI (fun _ _ => 0) 0 fk 8))), (a 3, .inl (k 3, 1000, .inl sl)), (a 4, .inl (k 4, 8000, .inl ks)), (a 5, .inl (k 5, 1000, .inr (.inl ct))), (a 6, .inl (k 6, 8000, .inr (.inl sm))), (a 7, .inl (k 7, 8000, .inr (.inl le))), (a 8, .inl (k 8, 8000, .inr (.inl gr)))]) (w1 := [(a 2, .inl (k 2, 8, .inr (.inl (upTo (fun _ _ => 0) 0 fa 8))))]) hP hD [2] [0, 1, 3, 4, 5, 6, 7, 8] rfl rfl (by decide) (by decide) hk1 hFc hP1 hD1
          generalize H1 = H at hP hS ⊢
          have hP := hP.sub (ws' := (wX a k (nI j) (nI j2) (nI 0) (upToI (fun _ _ => 0) 0 fk 8) (upTo (fun _ _ => 0) 0 fa 8) sl ks ct sm le gr)) [0, 1, 8, 2, 3, 4, 5, 6, 7] rfl
          have hD := hD.sub (ws' := (wX a k (nI j) (nI j2) (nI 0) (upToI (fun _ _ => 0) 0 fk 8) (upTo (fun _ _ => 0) 0 fa 8) sl ks ct sm le gr)) [0, 1, 8, 2, 3, 4, 5, 6, 7] (by decide) rfl
          have hP : va_P (dC, dI) classes (wX a k (nI j) (nI j2) (nI 0) (upToI (fun _ _ => 0) 0 fk 8) (upTo (fun _ _ => 0) 0 fa 8) sl ks ct sm le gr) H := hP
          have hD : va_D A (wX a k (nI j) (nI j2) (nI 0) (upToI (fun _ _ => 0) 0 fk 8) (upTo (fun _ _ => 0) 0 fa 8) sl ks ct sm le gr) := hD
          have hr9 : repT σ j j2 (0, T.2) ks ct sm le gr := ⟨⟨hj, hj1, hj2, Nat.zero_le _⟩, fun p hp => absurd hp (Nat.not_lt_zero p), fun p hp => absurd hp (Nat.not_lt_zero p), fun p m hp => absurd hp (Nat.not_lt_zero p), fun p q _ h => absurd h (Nat.not_lt_zero q)⟩
          refine vx_ret ?_
          refine W.widen (k := 1) (n := 6) (Nat.zero_le _) (Nat.zero_le _) ?_
          exact W.vret hx hb hr (fun t9 ht9 hW9 => ⟨⟨(), rfl, ⟨hL, trivial⟩, by rw [cj, cj2]; exact ⟨σ, sl, ks, ct, sm, le, gr, ⟨hσ, hr9⟩, by rw [ht9]; exact hP, va_K.moved hW9.alike hK, hD⟩⟩, hS.F ht9⟩) hS.2.2 dX_begin_72
        · skip
          exact gx_throw (is := 52) (text := "measures is not 1 .. 8") hx hb hnt hown hta hT hS (hl.1.trans hml.symm) (by decide) dX_begin_31 dX_begin_34 dX_begin_35 dX_begin_37 dX_begin_40 hno (Nat.le_of_ble_eq_true rfl) (Nat.le_of_ble_eq_true rfl) (Nat.le_of_ble_eq_true rfl) (Nat.le_of_ble_eq_true rfl) hlocks (fun t9 hv9 hz9 hk9 => ⟨(), fun q => h4 q.2.2, ⟨rfl, gx_P hP hk9, va_K.moved hv9 hK, hD⟩, gx_F hS hz9 hk9⟩) hS.2.2 (Nat.le_of_ble_eq_true rfl) (Nat.le_of_ble_eq_true rfl)
    · skip
      exact gx_throw (is := 47) (text := "width is not 0 .. 8") hx hb hnt hown hta hT hS (hl.1.trans hml.symm) (by decide) dX_begin_10 dX_begin_13 dX_begin_14 dX_begin_16 dX_begin_19 hno (Nat.le_of_ble_eq_true rfl) (Nat.le_of_ble_eq_true rfl) (Nat.le_of_ble_eq_true rfl) (Nat.le_of_ble_eq_true rfl) hlocks (fun t9 hv9 hz9 hk9 => ⟨(), fun q => h2 q.1.2, ⟨rfl, gx_P hP hk9, va_K.moved hv9 hK, hD⟩, gx_F hS hz9 hk9⟩) hS.2.2 (Nat.le_of_ble_eq_true rfl) (Nat.le_of_ble_eq_true rfl)
set_option maxHeartbeats 4000000 in
set_option maxRecDepth 100000 in
/-- keyAt -/
theorem c_keyAt (l : Launch) (hnt : l.stackTraces = false) (dC : Nat → ClassId) (dI : Nat → Nat → Nat) (a : Nat → Nat) (k : Nat → ClassId) (wn mn : Nat) (fk : Nat → Int32) (fa : Nat → Int64) (T : TB) (σ : Nat → Nat) (sl ks : Nat → Int32) (ct sm le gr : Nat → Int64) (hσ : perm σ sl) (hrep : repT σ wn mn T ks ct sm le gr) (pl i : Int32) (sz : Nat) : vx_Met l yX_keyAt (Cond.code yX_keyAt bX_keyAt 3 (some .int) :: wAll) { frames := 6, cells := 1, slots := 6, locals := 160 } (va_Pc [.ref (a 0), .int pl, .int i] (fun U => U.heap.size = sz ∧ va_P (dC, dI) classes (wX a k (nI wn) (nI mn) (nI T.1) fk fa sl ks ct sm le gr) U.heap ∧ va_K (dC, dI) classes (kX k) U ∧ va_D (fun _ => True) (wX a k (nI wn) (nI mn) (nI T.1) fk fa sl ks ct sm le gr) ∧ thrE (va_A (wX a k (nI wn) (nI mn) (nI T.1) fk fa sl ks ct sm le gr) sz) U U.heap)) (va_Qi (fun (r9 : Int32) (_ : Unit) => ((0 ≤ pl ∧ pl < nI T.1) ∧ 0 ≤ i ∧ i < nI wn) ∧ r9 = (T.2.1 pl.toNatClampNeg i.toNatClampNeg)) (fun (_ : Unit) (t9 : State) => va_P (dC, dI) classes (wX a k (nI wn) (nI mn) (nI T.1) fk fa sl ks ct sm le gr) t9.heap ∧ va_K (dC, dI) classes (kX k) t9 ∧ va_D (va_A (wX a k (nI wn) (nI mn) (nI T.1) fk fa sl ks ct sm le gr) sz) (wX a k (nI wn) (nI mn) (nI T.1) fk fa sl ks ct sm le gr)) (va_A (wX a k (nI wn) (nI mn) (nI T.1) fk fa sl ks ct sm le gr) sz)) (vx_X (fun _ : Unit => ¬ ((0 ≤ pl ∧ pl < nI T.1) ∧ 0 ≤ i ∧ i < nI wn)) (fun (E9 : String) (_ : Unit) (t9 : State) => E9 = "java/lang/IllegalArgumentException" ∧ va_P (dC, dI) classes (wX a k (nI wn) (nI mn) (nI T.1) fk fa sl ks ct sm le gr) t9.heap ∧ va_K (dC, dI) classes (kX k) t9 ∧ va_D (va_A (wX a k (nI wn) (nI mn) (nI T.1) fk fa sl ks ct sm le gr) sz) (wX a k (nI wn) (nI mn) (nI T.1) fk fa sl ks ct sm le gr)) (va_A (wX a k (nI wn) (nI mn) (nI T.1) fk fa sl ks ct sm le gr) sz)) 1 6 (va_A (wX a k (nI wn) (nI mn) (nI T.1) fk fa sl ks ct sm le gr) sz) := by
  refine vx_ofW (cc := bX_keyAt) (maxL := 3) (ret := (some .int)) (by decide) rfl ?_
  intro p e s m args below meth c s₁ B hml hno hv
  obtain ⟨rfl, hsz, hP, hK, hD0, hT⟩ := hv
  have hx := B.exec
  have hb := B.bytes
  have hr := B.returns
  have hta : ∀ w ∈ wAll, w.before ([.ref (a 0), .int pl, .int i] : List Value).toArray s = true := fun w h => atoms_spec (ws := (Cond.code yX_keyAt bX_keyAt 3 (some .int) :: wAll)) B.pre w (List.mem_cons_of_mem _ h)
  have hown : s.vm.findClass "GroupRows" = some m.cls := findClass_of_methodNamed B.named
  have hlocks := B.notSynchronized
  subst hsz
  have hD := hD0.self (sz := s.heap.size)
  generalize hAe : va_A (wX a k (nI wn) (nI mn) (nI T.1) fk fa sl ks ct sm le gr) s.heap.size = A at hD hT ⊢
  have hA : ∀ q : Nat, s.heap.size ≤ q → A q := fun q h => by rw [← hAe]; exact Or.inr h
  have hS : va_S A s.heap s.heap [] := va_S.rf
  have hP : va_P (dC, dI) classes (wX a k (nI wn) (nI mn) (nI T.1) fk fa sl ks ct sm le gr) s.heap := hP
  have hl := lv_entry ([.ref (a 0), .int pl, .int i]) (n := 3) (Nat.le_of_ble_eq_true rfl)
  rw [lg_entry_eq]
  generalize (lg_sl ([.ref (a 0), .int pl, .int i]) ++ List.replicate (3 - (lg_sl ([.ref (a 0), .int pl, .int i])).length) Slot.unset).toArray = ls at hl ⊢
  have hl : lv_has ls 3 [(0, .ref (a 0)), (1, .int pl), (2, .int i)] := hl
  obtain ⟨⟨hwn, hmn1, hmn, hn⟩, hk9, hc9, hv9, hs9⟩ := id hrep
  refine lv_aload_n hx hb dX_keyAt_0 rfl (lv_at hl 0 rfl) ?_
  refine lv_iload_n hx hb dX_keyAt_1 rfl (lv_at hl 1 rfl) ?_
  refine gi_callR (v := .int (if 0 ≤ pl ∧ pl < nI T.1 then 1 else 0)) (W.runV (As := [.int pl]) (rest := []) ⟨hx, hb, hml, hown, hta⟩ (c_isPlace l dC dI a k (nI wn) (nI mn) (nI T.1) fk fa sl ks ct sm le gr pl) (cwV 1 hta (gV w254 w256 sX_isPlace w1 w257) rfl rfl rfl (by decide +kernel) ⟨Nat.le_of_ble_eq_true rfl, Nat.le_of_ble_eq_true rfl⟩) ⟨gb_R, va_recv hK hP (ci := 0) (q0 := 0) rfl rfl, fun U hU hW => ⟨rfl, by rw [hU]; exact hP, va_K.moved hW.alike hK⟩⟩ rfl rfl hl.1 rfl (lv_room (Nat.le_of_ble_eq_true rfl)) dX_keyAt_2 ⟨Nat.le_of_ble_eq_true rfl, Nat.le_of_ble_eq_true rfl⟩) ?_
  refine lv_if_ne (tgt := 18) hx hb dX_keyAt_5 (by decide) (fun h1 => ?_) (fun h1 => ?_)
  rotate_left
  · skip
    have hn9 : ¬ (0 ≤ pl ∧ pl < nI T.1) := fun q => by rw [if_pos q] at h1; exact absurd h1 (by decide)
    exact gx_throw (is := 102) (text := "there is no such row") hx hb hnt hown hta hT hS (hl.1.trans hml.symm) (by decide) dX_keyAt_8 dX_keyAt_11 dX_keyAt_12 dX_keyAt_14 dX_keyAt_17 hno (Nat.le_of_ble_eq_true rfl) (Nat.le_of_ble_eq_true rfl) (Nat.le_of_ble_eq_true rfl) (Nat.le_of_ble_eq_true rfl) hlocks (fun t9 hv9 hz9 hk9 => ⟨(), fun q => hn9 q.1, ⟨rfl, gx_P hP hk9, va_K.moved hv9 hK, hD⟩, gx_F hS hz9 hk9⟩) hS.2.2 (Nat.le_of_ble_eq_true rfl) (Nat.le_of_ble_eq_true rfl)
  · skip
    have hL1 : 0 ≤ pl ∧ pl < nI T.1 := by
      by_cases q : 0 ≤ pl ∧ pl < nI T.1
      · exact q
      · rw [if_neg q] at h1; exact absurd rfl h1
    refine lv_aload_n hx hb dX_keyAt_18 rfl (lv_at hl 0 rfl) ?_
    refine lv_iload_n hx hb dX_keyAt_19 rfl (lv_at hl 2 rfl) ?_
    refine gi_callR (v := .int (if 0 ≤ i ∧ i < nI wn then 1 else 0)) (W.runV (As := [.int i]) (rest := []) ⟨hx, hb, hml, hown, hta⟩ (c_isPart l dC dI a k (nI wn) (nI mn) (nI T.1) fk fa sl ks ct sm le gr i) (cwV 1 hta (gV w166 w168 sX_isPart w1 w169) rfl rfl rfl (by decide +kernel) ⟨Nat.le_of_ble_eq_true rfl, Nat.le_of_ble_eq_true rfl⟩) ⟨gb_R, va_recv hK hP (ci := 0) (q0 := 0) rfl rfl, fun U hU hW => ⟨rfl, by rw [hU]; exact hP, va_K.moved hW.alike hK⟩⟩ rfl rfl hl.1 rfl (lv_room (Nat.le_of_ble_eq_true rfl)) dX_keyAt_20 ⟨Nat.le_of_ble_eq_true rfl, Nat.le_of_ble_eq_true rfl⟩) ?_
    refine lv_if_ne (tgt := 36) hx hb dX_keyAt_23 (by decide) (fun h1 => ?_) (fun h1 => ?_)
    rotate_left
    · skip
      have hn9 : ¬ (0 ≤ i ∧ i < nI wn) := fun q => by rw [if_pos q] at h1; exact absurd h1 (by decide)
      exact gx_throw (is := 67) (text := "there is no such part") hx hb hnt hown hta hT hS (hl.1.trans hml.symm) (by decide) dX_keyAt_26 dX_keyAt_29 dX_keyAt_30 dX_keyAt_32 dX_keyAt_35 hno (Nat.le_of_ble_eq_true rfl) (Nat.le_of_ble_eq_true rfl) (Nat.le_of_ble_eq_true rfl) (Nat.le_of_ble_eq_true rfl) hlocks (fun t9 hv9 hz9 hk9 => ⟨(), fun q => hn9 q.2, ⟨rfl, gx_P hP hk9, va_K.moved hv9 hK, hD⟩, gx_F hS hz9 hk9⟩) hS.2.2 (Nat.le_of_ble_eq_true rfl) (Nat.le_of_ble_eq_true rfl)
    · skip
      have hL2 : 0 ≤ i ∧ i < nI wn := by
        by_cases q : 0 ≤ i ∧ i < nI wn
        · exact q
        · rw [if_neg q] at h1; exact absurd rfl h1
      obtain ⟨p0, hp0, ep, cp⟩ := in_nI (by omega) hL1
      obtain ⟨j, hj, ej, cj⟩ := in_nI (by omega) hL2
      subst ep
      subst ej
      have hσp := hσ.2.1 p0 (by omega)
      refine lv_aload_n hx hb dX_keyAt_36 rfl (lv_at hl 0 rfl) ?_
      refine va_get (D := (dC, dI)) (ci := 0) (v := .ref (a 4)) (C := "GroupRows") (T := FX) (N := 11) hx hb hta inX hown hK hP 0 rfl rfl 6 (by decide) (hta _ w25) (fun _ h9 => h9) rfl dX_keyAt_37 ?_
      refine lv_aload_n hx hb dX_keyAt_40 rfl (lv_at hl 0 rfl) ?_
      refine va_get (D := (dC, dI)) (ci := 0) (v := .ref (a 3)) (C := "GroupRows") (T := FX) (N := 11) hx hb hta inX hown hK hP 0 rfl rfl 5 (by decide) (hta _ w24) (fun _ h9 => h9) rfl dX_keyAt_41 ?_
      refine lv_iload_n hx hb dX_keyAt_44 rfl (lv_at hl 1 rfl) ?_
      refine gi_iald hx hb hK hP 3 2 rfl rfl (k := p0) (by omega) (by decide) dX_keyAt_45 ?_
      refine gi_as (y := nI (σ p0)) (hσ.1 p0 (by omega)) ?_
      refine lv_bipush (v := 8) hx hb dX_keyAt_46 (by decide) ?_
      refine lv_imul hx hb dX_keyAt_48 ?_
      refine gi_as (y := nI (8 * (σ p0))) (gi_mul8 _) ?_
      refine lv_iload_n hx hb dX_keyAt_49 rfl (lv_at hl 2 rfl) ?_
      refine lv_iadd hx hb dX_keyAt_50 ?_
      refine gi_as (y := nI ((8 * (σ p0)) + j)) (nI_add _ _) ?_
      refine gi_iald hx hb hK hP 4 3 rfl rfl (k := ((8 * (σ p0)) + j)) (by omega) (by decide) dX_keyAt_51 ?_
      refine gi_as (y := T.2.1 p0 j) (hk9 p0 hp0 j hj) ?_
      refine vx_ret ?_
      refine W.widen (k := 1) (n := 6) (Nat.zero_le _) (Nat.zero_le _) ?_
      exact W.iret (v := (T.2.1 p0 j)) hx hb hr (fun t9 ht9 hW9 => ⟨⟨(T.2.1 p0 j), (), rfl, ⟨⟨hL1, hL2⟩, by rw [cp, cj]⟩, by rw [ht9]; exact hP, va_K.moved hW9.alike hK, hD⟩, hS.F ht9⟩) hS.2.2 dX_keyAt_52
set_option maxHeartbeats 4000000 in
set_option maxRecDepth 100000 in
/-- count -/
theorem c_count (l : Launch) (hnt : l.stackTraces = false) (dC : Nat → ClassId) (dI : Nat → Nat → Nat) (a : Nat → Nat) (k : Nat → ClassId) (wn mn : Nat) (fk : Nat → Int32) (fa : Nat → Int64) (T : TB) (σ : Nat → Nat) (sl ks : Nat → Int32) (ct sm le gr : Nat → Int64) (hσ : perm σ sl) (hrep : repT σ wn mn T ks ct sm le gr) (pl : Int32) (sz : Nat) : vx_Met l yX_count (Cond.code yX_count bX_count 2 (some .long) :: wAll) { frames := 6, cells := 1, slots := 6, locals := 160 } (va_Pc [.ref (a 0), .int pl] (fun U => U.heap.size = sz ∧ va_P (dC, dI) classes (wX a k (nI wn) (nI mn) (nI T.1) fk fa sl ks ct sm le gr) U.heap ∧ va_K (dC, dI) classes (kX k) U ∧ va_D (fun _ => True) (wX a k (nI wn) (nI mn) (nI T.1) fk fa sl ks ct sm le gr) ∧ thrE (va_A (wX a k (nI wn) (nI mn) (nI T.1) fk fa sl ks ct sm le gr) sz) U U.heap)) (va_Ql (fun (r9 : Int64) (_ : Unit) => (0 ≤ pl ∧ pl < nI T.1) ∧ r9 = (T.2.2.1 pl.toNatClampNeg)) (fun (_ : Unit) (t9 : State) => va_P (dC, dI) classes (wX a k (nI wn) (nI mn) (nI T.1) fk fa sl ks ct sm le gr) t9.heap ∧ va_K (dC, dI) classes (kX k) t9 ∧ va_D (va_A (wX a k (nI wn) (nI mn) (nI T.1) fk fa sl ks ct sm le gr) sz) (wX a k (nI wn) (nI mn) (nI T.1) fk fa sl ks ct sm le gr)) (va_A (wX a k (nI wn) (nI mn) (nI T.1) fk fa sl ks ct sm le gr) sz)) (vx_X (fun _ : Unit => ¬ (0 ≤ pl ∧ pl < nI T.1)) (fun (E9 : String) (_ : Unit) (t9 : State) => E9 = "java/lang/IllegalArgumentException" ∧ va_P (dC, dI) classes (wX a k (nI wn) (nI mn) (nI T.1) fk fa sl ks ct sm le gr) t9.heap ∧ va_K (dC, dI) classes (kX k) t9 ∧ va_D (va_A (wX a k (nI wn) (nI mn) (nI T.1) fk fa sl ks ct sm le gr) sz) (wX a k (nI wn) (nI mn) (nI T.1) fk fa sl ks ct sm le gr)) (va_A (wX a k (nI wn) (nI mn) (nI T.1) fk fa sl ks ct sm le gr) sz)) 1 6 (va_A (wX a k (nI wn) (nI mn) (nI T.1) fk fa sl ks ct sm le gr) sz) := by
  refine vx_ofW (cc := bX_count) (maxL := 2) (ret := (some .long)) (by decide) rfl ?_
  intro p e s m args below meth c s₁ B hml hno hv
  obtain ⟨rfl, hsz, hP, hK, hD0, hT⟩ := hv
  have hx := B.exec
  have hb := B.bytes
  have hr := B.returns
  have hta : ∀ w ∈ wAll, w.before ([.ref (a 0), .int pl] : List Value).toArray s = true := fun w h => atoms_spec (ws := (Cond.code yX_count bX_count 2 (some .long) :: wAll)) B.pre w (List.mem_cons_of_mem _ h)
  have hown : s.vm.findClass "GroupRows" = some m.cls := findClass_of_methodNamed B.named
  have hlocks := B.notSynchronized
  subst hsz
  have hD := hD0.self (sz := s.heap.size)
  generalize hAe : va_A (wX a k (nI wn) (nI mn) (nI T.1) fk fa sl ks ct sm le gr) s.heap.size = A at hD hT ⊢
  have hA : ∀ q : Nat, s.heap.size ≤ q → A q := fun q h => by rw [← hAe]; exact Or.inr h
  have hS : va_S A s.heap s.heap [] := va_S.rf
  have hP : va_P (dC, dI) classes (wX a k (nI wn) (nI mn) (nI T.1) fk fa sl ks ct sm le gr) s.heap := hP
  have hl := lv_entry ([.ref (a 0), .int pl]) (n := 2) (Nat.le_of_ble_eq_true rfl)
  rw [lg_entry_eq]
  generalize (lg_sl ([.ref (a 0), .int pl]) ++ List.replicate (2 - (lg_sl ([.ref (a 0), .int pl])).length) Slot.unset).toArray = ls at hl ⊢
  have hl : lv_has ls 2 [(0, .ref (a 0)), (1, .int pl)] := hl
  obtain ⟨⟨hwn, hmn1, hmn, hn⟩, hk9, hc9, hv9, hs9⟩ := id hrep
  refine lv_aload_n hx hb dX_count_0 rfl (lv_at hl 0 rfl) ?_
  refine lv_iload_n hx hb dX_count_1 rfl (lv_at hl 1 rfl) ?_
  refine gi_callR (v := .int (if 0 ≤ pl ∧ pl < nI T.1 then 1 else 0)) (W.runV (As := [.int pl]) (rest := []) ⟨hx, hb, hml, hown, hta⟩ (c_isPlace l dC dI a k (nI wn) (nI mn) (nI T.1) fk fa sl ks ct sm le gr pl) (cwV 1 hta (gV w254 w256 sX_isPlace w1 w257) rfl rfl rfl (by decide +kernel) ⟨Nat.le_of_ble_eq_true rfl, Nat.le_of_ble_eq_true rfl⟩) ⟨gb_R, va_recv hK hP (ci := 0) (q0 := 0) rfl rfl, fun U hU hW => ⟨rfl, by rw [hU]; exact hP, va_K.moved hW.alike hK⟩⟩ rfl rfl hl.1 rfl (lv_room (Nat.le_of_ble_eq_true rfl)) dX_count_2 ⟨Nat.le_of_ble_eq_true rfl, Nat.le_of_ble_eq_true rfl⟩) ?_
  refine lv_if_ne (tgt := 18) hx hb dX_count_5 (by decide) (fun h1 => ?_) (fun h1 => ?_)
  rotate_left
  · skip
    have hn9 : ¬ (0 ≤ pl ∧ pl < nI T.1) := fun q => by rw [if_pos q] at h1; exact absurd h1 (by decide)
    exact gx_throw (is := 102) (text := "there is no such row") hx hb hnt hown hta hT hS (hl.1.trans hml.symm) (by decide) dX_count_8 dX_count_11 dX_count_12 dX_count_14 dX_count_17 hno (Nat.le_of_ble_eq_true rfl) (Nat.le_of_ble_eq_true rfl) (Nat.le_of_ble_eq_true rfl) (Nat.le_of_ble_eq_true rfl) hlocks (fun t9 hv9 hz9 hk9 => ⟨(), hn9, ⟨rfl, gx_P hP hk9, va_K.moved hv9 hK, hD⟩, gx_F hS hz9 hk9⟩) hS.2.2 (Nat.le_of_ble_eq_true rfl) (Nat.le_of_ble_eq_true rfl)
  · skip
    have hL1 : 0 ≤ pl ∧ pl < nI T.1 := by
      by_cases q : 0 ≤ pl ∧ pl < nI T.1
      · exact q
      · rw [if_neg q] at h1; exact absurd rfl h1
    obtain ⟨p0, hp0, ep, cp⟩ := in_nI (by omega) hL1
    subst ep
    have hσp := hσ.2.1 p0 (by omega)
    refine lv_aload_n hx hb dX_count_18 rfl (lv_at hl 0 rfl) ?_
    refine va_get (D := (dC, dI)) (ci := 0) (v := .ref (a 5)) (C := "GroupRows") (T := FX) (N := 11) hx hb hta inX hown hK hP 0 rfl rfl 7 (by decide) (hta _ w26) (fun _ h9 => h9) rfl dX_count_19 ?_
    refine lv_aload_n hx hb dX_count_22 rfl (lv_at hl 0 rfl) ?_
    refine va_get (D := (dC, dI)) (ci := 0) (v := .ref (a 3)) (C := "GroupRows") (T := FX) (N := 11) hx hb hta inX hown hK hP 0 rfl rfl 5 (by decide) (hta _ w24) (fun _ h9 => h9) rfl dX_count_23 ?_
    refine lv_iload_n hx hb dX_count_26 rfl (lv_at hl 1 rfl) ?_
    refine gi_iald hx hb hK hP 3 2 rfl rfl (k := p0) (by omega) (by decide) dX_count_27 ?_
    refine gi_as (y := nI (σ p0)) (hσ.1 p0 (by omega)) ?_
    refine gi_lald hx hb hK hP 5 4 rfl rfl (k := (σ p0)) (by omega) (by decide) dX_count_28 ?_
    refine gi_asl (y := T.2.2.1 p0) (hc9 p0 hp0) ?_
    refine vx_ret ?_
    refine W.widen (k := 1) (n := 6) (Nat.zero_le _) (Nat.zero_le _) ?_
    exact W.lret (v := (T.2.2.1 p0)) hx hb hr (fun t9 ht9 hW9 => ⟨⟨(T.2.2.1 p0), (), rfl, ⟨hL1, by rw [cp]⟩, by rw [ht9]; exact hP, va_K.moved hW9.alike hK, hD⟩, hS.F ht9⟩) hS.2.2 dX_count_29
set_option maxHeartbeats 4000000 in
set_option maxRecDepth 100000 in
/-- told -/
theorem c_told (l : Launch) (hnt : l.stackTraces = false) (dC : Nat → ClassId) (dI : Nat → Nat → Nat) (a : Nat → Nat) (k : Nat → ClassId) (wn mn : Nat) (fk : Nat → Int32) (fa : Nat → Int64) (T : TB) (σ : Nat → Nat) (sl ks : Nat → Int32) (ct sm le gr : Nat → Int64) (hσ : perm σ sl) (hrep : repT σ wn mn T ks ct sm le gr) (pl m0 wh : Int32) (sz : Nat) : vx_Met l yX_told (Cond.code yX_told bX_told 5 (some .long) :: wAll) { frames := 6, cells := 1, slots := 6, locals := 160 } (va_Pc [.ref (a 0), .int pl, .int m0, .int wh] (fun U => U.heap.size = sz ∧ va_P (dC, dI) classes (wX a k (nI wn) (nI mn) (nI T.1) fk fa sl ks ct sm le gr) U.heap ∧ va_K (dC, dI) classes (kX k) U ∧ va_D (fun _ => True) (wX a k (nI wn) (nI mn) (nI T.1) fk fa sl ks ct sm le gr) ∧ thrE (va_A (wX a k (nI wn) (nI mn) (nI T.1) fk fa sl ks ct sm le gr) sz) U U.heap)) (va_Ql (fun (r9 : Int64) (_ : Unit) => ((0 ≤ pl ∧ pl < nI T.1) ∧ (0 ≤ m0 ∧ m0 < nI mn) ∧ 0 ≤ wh ∧ wh ≤ 2) ∧ r9 = (if wh = 0 then T.2.2.2.1 pl.toNatClampNeg m0.toNatClampNeg else if wh = 1 then T.2.2.2.2.1 pl.toNatClampNeg m0.toNatClampNeg else T.2.2.2.2.2 pl.toNatClampNeg m0.toNatClampNeg)) (fun (_ : Unit) (t9 : State) => va_P (dC, dI) classes (wX a k (nI wn) (nI mn) (nI T.1) fk fa sl ks ct sm le gr) t9.heap ∧ va_K (dC, dI) classes (kX k) t9 ∧ va_D (va_A (wX a k (nI wn) (nI mn) (nI T.1) fk fa sl ks ct sm le gr) sz) (wX a k (nI wn) (nI mn) (nI T.1) fk fa sl ks ct sm le gr)) (va_A (wX a k (nI wn) (nI mn) (nI T.1) fk fa sl ks ct sm le gr) sz)) (vx_X (fun _ : Unit => ¬ ((0 ≤ pl ∧ pl < nI T.1) ∧ (0 ≤ m0 ∧ m0 < nI mn) ∧ 0 ≤ wh ∧ wh ≤ 2)) (fun (E9 : String) (_ : Unit) (t9 : State) => E9 = "java/lang/IllegalArgumentException" ∧ va_P (dC, dI) classes (wX a k (nI wn) (nI mn) (nI T.1) fk fa sl ks ct sm le gr) t9.heap ∧ va_K (dC, dI) classes (kX k) t9 ∧ va_D (va_A (wX a k (nI wn) (nI mn) (nI T.1) fk fa sl ks ct sm le gr) sz) (wX a k (nI wn) (nI mn) (nI T.1) fk fa sl ks ct sm le gr)) (va_A (wX a k (nI wn) (nI mn) (nI T.1) fk fa sl ks ct sm le gr) sz)) 1 6 (va_A (wX a k (nI wn) (nI mn) (nI T.1) fk fa sl ks ct sm le gr) sz) := by
  refine vx_ofW (cc := bX_told) (maxL := 5) (ret := (some .long)) (by decide) rfl ?_
  intro p e s m args below meth c s₁ B hml hno hv
  obtain ⟨rfl, hsz, hP, hK, hD0, hT⟩ := hv
  have hx := B.exec
  have hb := B.bytes
  have hr := B.returns
  have hta : ∀ w ∈ wAll, w.before ([.ref (a 0), .int pl, .int m0, .int wh] : List Value).toArray s = true := fun w h => atoms_spec (ws := (Cond.code yX_told bX_told 5 (some .long) :: wAll)) B.pre w (List.mem_cons_of_mem _ h)
  have hown : s.vm.findClass "GroupRows" = some m.cls := findClass_of_methodNamed B.named
  have hlocks := B.notSynchronized
  subst hsz
  have hD := hD0.self (sz := s.heap.size)
  generalize hAe : va_A (wX a k (nI wn) (nI mn) (nI T.1) fk fa sl ks ct sm le gr) s.heap.size = A at hD hT ⊢
  have hA : ∀ q : Nat, s.heap.size ≤ q → A q := fun q h => by rw [← hAe]; exact Or.inr h
  have hS : va_S A s.heap s.heap [] := va_S.rf
  have hP : va_P (dC, dI) classes (wX a k (nI wn) (nI mn) (nI T.1) fk fa sl ks ct sm le gr) s.heap := hP
  have hl := lv_entry ([.ref (a 0), .int pl, .int m0, .int wh]) (n := 5) (Nat.le_of_ble_eq_true rfl)
  rw [lg_entry_eq]
  generalize (lg_sl ([.ref (a 0), .int pl, .int m0, .int wh]) ++ List.replicate (5 - (lg_sl ([.ref (a 0), .int pl, .int m0, .int wh])).length) Slot.unset).toArray = ls at hl ⊢
  have hl : lv_has ls 5 [(0, .ref (a 0)), (1, .int pl), (2, .int m0), (3, .int wh)] := hl
  obtain ⟨⟨hwn, hmn1, hmn, hn⟩, hk9, hc9, hv9, hs9⟩ := id hrep
  refine lv_aload_n hx hb dX_told_0 rfl (lv_at hl 0 rfl) ?_
  refine lv_iload_n hx hb dX_told_1 rfl (lv_at hl 1 rfl) ?_
  refine gi_callR (v := .int (if 0 ≤ pl ∧ pl < nI T.1 then 1 else 0)) (W.runV (As := [.int pl]) (rest := []) ⟨hx, hb, hml, hown, hta⟩ (c_isPlace l dC dI a k (nI wn) (nI mn) (nI T.1) fk fa sl ks ct sm le gr pl) (cwV 1 hta (gV w254 w256 sX_isPlace w1 w257) rfl rfl rfl (by decide +kernel) ⟨Nat.le_of_ble_eq_true rfl, Nat.le_of_ble_eq_true rfl⟩) ⟨gb_R, va_recv hK hP (ci := 0) (q0 := 0) rfl rfl, fun U hU hW => ⟨rfl, by rw [hU]; exact hP, va_K.moved hW.alike hK⟩⟩ rfl rfl hl.1 rfl (lv_room (Nat.le_of_ble_eq_true rfl)) dX_told_2 ⟨Nat.le_of_ble_eq_true rfl, Nat.le_of_ble_eq_true rfl⟩) ?_
  refine lv_if_ne (tgt := 18) hx hb dX_told_5 (by decide) (fun h1 => ?_) (fun h1 => ?_)
  rotate_left
  · skip
    have hn9 : ¬ (0 ≤ pl ∧ pl < nI T.1) := fun q => by rw [if_pos q] at h1; exact absurd h1 (by decide)
    exact gx_throw (is := 102) (text := "there is no such row") hx hb hnt hown hta hT hS (hl.1.trans hml.symm) (by decide) dX_told_8 dX_told_11 dX_told_12 dX_told_14 dX_told_17 hno (Nat.le_of_ble_eq_true rfl) (Nat.le_of_ble_eq_true rfl) (Nat.le_of_ble_eq_true rfl) (Nat.le_of_ble_eq_true rfl) hlocks (fun t9 hv9 hz9 hk9 => ⟨(), fun q => hn9 q.1, ⟨rfl, gx_P hP hk9, va_K.moved hv9 hK, hD⟩, gx_F hS hz9 hk9⟩) hS.2.2 (Nat.le_of_ble_eq_true rfl) (Nat.le_of_ble_eq_true rfl)
  · skip
    have hL1 : 0 ≤ pl ∧ pl < nI T.1 := by
      by_cases q : 0 ≤ pl ∧ pl < nI T.1
      · exact q
      · rw [if_neg q] at h1; exact absurd rfl h1
    refine lv_aload_n hx hb dX_told_18 rfl (lv_at hl 0 rfl) ?_
    refine lv_iload_n hx hb dX_told_19 rfl (lv_at hl 2 rfl) ?_
    refine gi_callR (v := .int (if 0 ≤ m0 ∧ m0 < nI mn then 1 else 0)) (W.runV (As := [.int m0]) (rest := []) ⟨hx, hb, hml, hown, hta⟩ (c_isMeasure l dC dI a k (nI wn) (nI mn) (nI T.1) fk fa sl ks ct sm le gr m0) (cwV 1 hta (gV w178 w180 sX_isMeasure w1 w181) rfl rfl rfl (by decide +kernel) ⟨Nat.le_of_ble_eq_true rfl, Nat.le_of_ble_eq_true rfl⟩) ⟨gb_R, va_recv hK hP (ci := 0) (q0 := 0) rfl rfl, fun U hU hW => ⟨rfl, by rw [hU]; exact hP, va_K.moved hW.alike hK⟩⟩ rfl rfl hl.1 rfl (lv_room (Nat.le_of_ble_eq_true rfl)) dX_told_20 ⟨Nat.le_of_ble_eq_true rfl, Nat.le_of_ble_eq_true rfl⟩) ?_
    refine lv_if_ne (tgt := 36) hx hb dX_told_23 (by decide) (fun h1 => ?_) (fun h1 => ?_)
    rotate_left
    · skip
      have hn9 : ¬ (0 ≤ m0 ∧ m0 < nI mn) := fun q => by rw [if_pos q] at h1; exact absurd h1 (by decide)
      exact gx_throw (is := 72) (text := "there is no such measure") hx hb hnt hown hta hT hS (hl.1.trans hml.symm) (by decide) dX_told_26 dX_told_29 dX_told_30 dX_told_32 dX_told_35 hno (Nat.le_of_ble_eq_true rfl) (Nat.le_of_ble_eq_true rfl) (Nat.le_of_ble_eq_true rfl) (Nat.le_of_ble_eq_true rfl) hlocks (fun t9 hv9 hz9 hk9 => ⟨(), fun q => hn9 q.2.1, ⟨rfl, gx_P hP hk9, va_K.moved hv9 hK, hD⟩, gx_F hS hz9 hk9⟩) hS.2.2 (Nat.le_of_ble_eq_true rfl) (Nat.le_of_ble_eq_true rfl)
    · skip
      have hL2 : 0 ≤ m0 ∧ m0 < nI mn := by
        by_cases q : 0 ≤ m0 ∧ m0 < nI mn
        · exact q
        · rw [if_neg q] at h1; exact absurd rfl h1
      obtain ⟨p0, hp0, ep, cp⟩ := in_nI (by omega) hL1
      obtain ⟨j, hj, ej, cj⟩ := in_nI (by omega) hL2
      subst ep
      subst ej
      have hσp := hσ.2.1 p0 (by omega)
      refine lv_aload_n hx hb dX_told_36 rfl (lv_at hl 0 rfl) ?_
      refine va_get (D := (dC, dI)) (ci := 0) (v := .ref (a 3)) (C := "GroupRows") (T := FX) (N := 11) hx hb hta inX hown hK hP 0 rfl rfl 5 (by decide) (hta _ w24) (fun _ h9 => h9) rfl dX_told_37 ?_
      refine lv_iload_n hx hb dX_told_40 rfl (lv_at hl 1 rfl) ?_
      refine gi_iald hx hb hK hP 3 2 rfl rfl (k := p0) (by omega) (by decide) dX_told_41 ?_
      refine gi_as (y := nI (σ p0)) (hσ.1 p0 (by omega)) ?_
      refine lv_bipush (v := 8) hx hb dX_told_42 (by decide) ?_
      refine lv_imul hx hb dX_told_44 ?_
      refine gi_as (y := nI (8 * (σ p0))) (gi_mul8 _) ?_
      refine lv_iload_n hx hb dX_told_45 rfl (lv_at hl 2 rfl) ?_
      refine lv_iadd hx hb dX_told_46 ?_
      refine gi_as (y := nI ((8 * (σ p0)) + j)) (nI_add _ _) ?_
      refine lv_istore (lv' := [(4, .int (nI ((8 * (σ p0)) + j))), (0, .ref (a 0)), (1, .int (nI p0)), (2, .int (nI j)), (3, .int wh)]) hx hb dX_told_47 hl (by decide) rfl (fun ls hl => ?_)
      refine lv_iload_n hx hb dX_told_49 rfl (lv_at hl 4 rfl) ?_
      by_cases hw : 0 ≤ wh ∧ wh ≤ 2
      · skip
        obtain ⟨q0, hq0, eq0, cq0⟩ := in_le (n := 2) (by decide) hw
        rcases (show q0 = 0 ∨ q0 = 1 ∨ q0 = 2 by omega) with rfl | rfl | rfl
        · skip
          subst eq0
          refine lv_tableIn (off := 26) (tgt := 76) hx hb dX_told_50 (by decide) (by decide) (by decide) (by decide) ?_
          refine lv_aload_n hx hb dX_told_76 rfl (lv_at hl 1 rfl) ?_
          refine va_get (D := (dC, dI)) (ci := 0) (v := .ref (a 6)) (C := "GroupRows") (T := FX) (N := 11) hx hb hta inX hown hK hP 0 rfl rfl 8 (by decide) (hta _ w27) (fun _ h9 => h9) rfl dX_told_77 ?_
          refine lv_iload hx hb dX_told_80 (lv_at hl 0 rfl) ?_
          refine gi_lald hx hb hK hP 6 5 rfl rfl (k := ((8 * (σ p0)) + j)) (by omega) (by decide) dX_told_82 ?_
          refine gi_asl (y := T.2.2.2.1 p0 j) ((hv9 p0 j hp0 hj).1) ?_
          refine vx_ret ?_
          refine W.widen (k := 1) (n := 6) (Nat.zero_le _) (Nat.zero_le _) ?_
          exact W.lret (v := (T.2.2.2.1 p0 j)) hx hb hr (fun t9 ht9 hW9 => ⟨⟨(T.2.2.2.1 p0 j), (), rfl, ⟨⟨hL1, hL2, hw⟩, by rw [cp, cj, if_pos (show nI 0 = 0 from by decide)]⟩, by rw [ht9]; exact hP, va_K.moved hW9.alike hK, hD⟩, hS.F ht9⟩) hS.2.2 dX_told_83
        · skip
          subst eq0
          refine lv_tableIn (off := 34) (tgt := 84) hx hb dX_told_50 (by decide) (by decide) (by decide) (by decide) ?_
          refine lv_aload_n hx hb dX_told_84 rfl (lv_at hl 1 rfl) ?_
          refine va_get (D := (dC, dI)) (ci := 0) (v := .ref (a 7)) (C := "GroupRows") (T := FX) (N := 11) hx hb hta inX hown hK hP 0 rfl rfl 9 (by decide) (hta _ w28) (fun _ h9 => h9) rfl dX_told_85 ?_
          refine lv_iload hx hb dX_told_88 (lv_at hl 0 rfl) ?_
          refine gi_lald hx hb hK hP 7 6 rfl rfl (k := ((8 * (σ p0)) + j)) (by omega) (by decide) dX_told_90 ?_
          refine gi_asl (y := T.2.2.2.2.1 p0 j) ((hv9 p0 j hp0 hj).2.1) ?_
          refine vx_ret ?_
          refine W.widen (k := 1) (n := 6) (Nat.zero_le _) (Nat.zero_le _) ?_
          exact W.lret (v := (T.2.2.2.2.1 p0 j)) hx hb hr (fun t9 ht9 hW9 => ⟨⟨(T.2.2.2.2.1 p0 j), (), rfl, ⟨⟨hL1, hL2, hw⟩, by rw [cp, cj, if_neg (show ¬ nI 1 = 0 from by decide), if_pos (show nI 1 = 1 from by decide)]⟩, by rw [ht9]; exact hP, va_K.moved hW9.alike hK, hD⟩, hS.F ht9⟩) hS.2.2 dX_told_91
        · skip
          subst eq0
          refine lv_tableIn (off := 42) (tgt := 92) hx hb dX_told_50 (by decide) (by decide) (by decide) (by decide) ?_
          refine lv_aload_n hx hb dX_told_92 rfl (lv_at hl 1 rfl) ?_
          refine va_get (D := (dC, dI)) (ci := 0) (v := .ref (a 8)) (C := "GroupRows") (T := FX) (N := 11) hx hb hta inX hown hK hP 0 rfl rfl 10 (by decide) (hta _ w29) (fun _ h9 => h9) rfl dX_told_93 ?_
          refine lv_iload hx hb dX_told_96 (lv_at hl 0 rfl) ?_
          refine gi_lald hx hb hK hP 8 7 rfl rfl (k := ((8 * (σ p0)) + j)) (by omega) (by decide) dX_told_98 ?_
          refine gi_asl (y := T.2.2.2.2.2 p0 j) ((hv9 p0 j hp0 hj).2.2) ?_
          refine vx_ret ?_
          refine W.widen (k := 1) (n := 6) (Nat.zero_le _) (Nat.zero_le _) ?_
          exact W.lret (v := (T.2.2.2.2.2 p0 j)) hx hb hr (fun t9 ht9 hW9 => ⟨⟨(T.2.2.2.2.2 p0 j), (), rfl, ⟨⟨hL1, hL2, hw⟩, by rw [cp, cj, if_neg (show ¬ nI 2 = 0 from by decide), if_neg (show ¬ nI 2 = 1 from by decide)]⟩, by rw [ht9]; exact hP, va_K.moved hW9.alike hK, hD⟩, hS.F ht9⟩) hS.2.2 dX_told_99
      · skip
        have ho : wh.toInt < 0 ∨ 2 < wh.toInt := by
          rcases Int.lt_or_le wh.toInt 0 with q | q
          · exact Or.inl q
          · rcases Int.lt_or_le 2 wh.toInt with q2 | q2
            · exact Or.inr q2
            · exact absurd ⟨Int32.le_iff_toInt_le.mpr q, Int32.le_iff_toInt_le.mpr q2⟩ hw
        refine lv_tableOut (tgt := 100) hx hb dX_told_50 ho (by decide) ?_
        exact gx_throw (is := 104) (text := "what is not 0 .. 2") hx hb hnt hown hta hT hS (hl.1.trans hml.symm) (by decide) dX_told_100 dX_told_103 dX_told_104 dX_told_106 dX_told_109 hno (Nat.le_of_ble_eq_true rfl) (Nat.le_of_ble_eq_true rfl) (Nat.le_of_ble_eq_true rfl) (Nat.le_of_ble_eq_true rfl) hlocks (fun t9 hv9 hz9 hk9 => ⟨(), fun q => hw q.2.2, ⟨rfl, gx_P hP hk9, va_K.moved hv9 hK, hD⟩, gx_F hS hz9 hk9⟩) hS.2.2 (Nat.le_of_ble_eq_true rfl) (Nat.le_of_ble_eq_true rfl)
end
section
/-! rows for spread and roll -/
theorem upTo_stA (fa : Nat → Int64) (ms : Nat) (st : Int32) : upTo (fun _ x => x + st.toInt64) 0 fa ms = stA fa ms st := by
  funext m
  unfold stA
  by_cases h : m < ms
  · rw [if_pos h]
    have := upTo_at (g := fun _ x => x + st.toInt64) (q8 := 0) (f := fa) ms h
    rw [Nat.zero_add] at this
    exact this
  · rw [if_neg h]
    exact upTo_out ms (by omega)
theorem i64_one : (1 : Int32).toInt64 = 1 := by decide
theorem takeT_no {w : Nat} {fk : Nat → Int32} {fa : Nat → Int64} {nn : Int64} {T : TB} (h : ¬ (takeT w fk fa nn T).2 = true) : (takeT w fk fa nn T).1 = T := by
  unfold takeT at h ⊢
  split at h
  · exact absurd rfl h
  · rename_i h1
    rw [if_neg h1]
    split at h
    · exact absurd rfl h
    · rename_i h2
      rw [if_neg h2]
theorem sprT_yes {w ms i : Nat} {step : Int32} {k came : Nat} {fk fk2 : Nat → Int32} {fa fa2 : Nat → Int64} {T : TB} (ek : fk2 = if came = 0 then fk else stK fk i step) (ea : fa2 = if came = 0 then fa else stA fa ms step) (h : (takeT w fk2 fa2 1 T).2 = true) : sprT w ms i step (k + 1) came fk fa T = sprT w ms i step k (came + 1) fk2 fa2 (takeT w fk2 fa2 1 T).1 := by
  subst ek; subst ea
  show (if _ then _ else _) = _
  rw [if_pos h]
theorem sprT_no {w ms i : Nat} {step : Int32} {k came : Nat} {fk fk2 : Nat → Int32} {fa fa2 : Nat → Int64} {T : TB} (ek : fk2 = if came = 0 then fk else stK fk i step) (ea : fa2 = if came = 0 then fa else stA fa ms step) (h : ¬ (takeT w fk2 fa2 1 T).2 = true) : sprT w ms i step (k + 1) came fk fa T = (came, fk2, fa2, T) := by
  subst ek; subst ea
  show (if _ then _ else _) = _
  rw [if_neg h]
/-- the keys rolled up one row after the other -/
def rolA (σ : Nat → Nat) (i : Nat) (ks : Nat → Int32) : Nat → Nat → Int32
  | 0 => ks
  | p + 1 => upd (rolA σ i ks p) (8 * σ p + i) 2147483647
theorem rolA_at {σ : Nat → Nat} {i : Nat} {ks : Nat → Int32} (hi : i < 8) (inj : ∀ p q, p < 1000 → q < 1000 → σ p = σ q → p = q) : ∀ n, n ≤ 1000 → ∀ q j, q < n → j < 8 → rolA σ i ks n (8 * σ q + j) = if j = i then 2147483647 else ks (8 * σ q + j) := by
  have out : ∀ n, n ≤ 1000 → ∀ q j, n ≤ q → q < 1000 → j < 8 → rolA σ i ks n (8 * σ q + j) = ks (8 * σ q + j) := by
    intro n
    induction n with
    | zero => intro _ q j _ _ _; rfl
    | succ n ih =>
      intro hn q j h1 h2 h3
      show upd (rolA σ i ks n) (8 * σ n + i) _ (8 * σ q + j) = _
      have : σ q ≠ σ n := fun e => by have := inj q n h2 (by omega) e; omega
      rw [pk_un (by omega)]
      exact ih (by omega) q j (by omega) h2 h3
  intro n
  induction n with
  | zero => intro _ q j h; omega
  | succ n ih =>
    intro hn q j h1 h2
    show upd (rolA σ i ks n) (8 * σ n + i) _ (8 * σ q + j) = _
    by_cases e : q = n
    · subst e
      by_cases e2 : j = i
      · subst e2; rw [pk_us, if_pos rfl]
      · rw [pk_un (by omega), if_neg e2]; exact out q (by omega) q j (Nat.le_refl _) (by omega) h2
    · have : σ q ≠ σ n := fun z => e (inj q n (by omega) (by omega) z)
      rw [pk_un (by omega)]
      exact ih (by omega) q j (by omega) h2
theorem agg_congr2 {w : Nat} {Kr Kr' : Nat → Nat → Int32} {key : Nat → Int32} {v v' : Nat → Int64} {jn : Int64 → Int64 → Int64} : ∀ n, (∀ p, p < n → keq w (Kr p) (Kr' p) ∧ v p = v' p) → agg w Kr key v jn n = agg w Kr' key v' jn n := by
  intro n
  induction n with
  | zero => intro _; rfl
  | succ n ih =>
    intro h
    have e := ih (fun p hp => h p (by omega))
    obtain ⟨h1, h2⟩ := h n (Nat.lt_succ_self n)
    by_cases q : lx (Kr n) key w 0 = 0
    · have q2 : lx (Kr' n) key w 0 = 0 := lx_eq.mpr (keq_trans (keq_symm h1) (lx_eq.mp q))
      simp only [agg, q, q2, if_true, e, h2]
    · have q2 : ¬ lx (Kr' n) key w 0 = 0 := fun z => q (lx_eq.mpr (keq_trans h1 (lx_eq.mp z)))
      simp only [agg, q, q2, if_false, e]
theorem grp_congr {w ms p : Nat} {Kr Kr' : Nat → Nat → Int32} {C C' : Nat → Int64} {S L G S' L' G' : Nat → Nat → Int64} {k : Nat} {K1 : Nat → Nat → Int32} {C1 : Nat → Int64} {S1 L1 G1 : Nat → Nat → Int64} (hK : ∀ q, q < p → keq w (Kr q) (Kr' q)) (hC : ∀ q, q < p → C q = C' q) (hV : ∀ q m, q < p → m < ms → S q m = S' q m ∧ L q m = L' q m ∧ G q m = G' q m) (h : grp w ms p Kr C S L G k K1 C1 S1 L1 G1) : grp w ms p Kr' C' S' L' G' k K1 C1 S1 L1 G1 := by
  obtain ⟨h1, h2, h3, h4, h5⟩ := h
  refine ⟨fun j hj => ?_, fun q hq => ?_, h3, fun j hj => ?_, fun j m hj hm => ⟨?_, ?_, ?_⟩⟩
  · obtain ⟨q, q1, q2⟩ := h1 j hj
    exact ⟨q, q1, keq_trans (keq_symm (hK q q1)) q2⟩
  · obtain ⟨j, q1, q2⟩ := h2 q hq
    exact ⟨j, q1, keq_trans (keq_symm (hK q hq)) q2⟩
  · rw [← agg_congr2 p (fun q hq => ⟨hK q hq, hC q hq⟩)]; exact h4 j hj
  · rw [← agg_congr2 p (fun q hq => ⟨hK q hq, (hV q m hq hm).1⟩)]; exact (h5 j m hj hm).1
  · rw [← agg_congr2 p (fun q hq => ⟨hK q hq, (hV q m hq hm).2.1⟩)]; exact (h5 j m hj hm).2.1
  · rw [← agg_congr2 p (fun q hq => ⟨hK q hq, (hV q m hq hm).2.2⟩)]; exact (h5 j m hj hm).2.2
/-- the table that regroup leaves -/
def rgT (u : Nat) (σ1 : Nat → Nat) (ks : Nat → Int32) (ct1 sm1 le1 gr1 : Nat → Int64) : TB := (u, fun j i => ks (8 * σ1 j + i), fun j => ct1 (σ1 j), fun j m => sm1 (8 * σ1 j + m), fun j m => le1 (8 * σ1 j + m), fun j m => gr1 (8 * σ1 j + m))
theorem rg_roll {σ σ1 : Nat → Nat} {w mn i u : Nat} {T : TB} {ks : Nat → Int32} {sl1 : Nat → Int32} {ct sm le gr ct1 sm1 le1 gr1 : Nat → Int64} (hi : i < w) (inj : ∀ p q, p < 1000 → q < 1000 → σ p = σ q → p = q) (h : repT σ w mn T ks ct sm le gr) (hI : rgI w mn T.1 σ (rolA σ i ks T.1) ct sm le gr T.1 u σ1 sl1 ct1 sm1 le1 gr1) :
    rollR w mn i T (rgT u σ1 (rolA σ i ks T.1) ct1 sm1 le1 gr1) ∧ perm σ1 sl1 ∧ repT σ1 w mn (rgT u σ1 (rolA σ i ks T.1) ct1 sm1 le1 gr1) (rolA σ i ks T.1) ct1 sm1 le1 gr1 := by
  obtain ⟨⟨b1, b2, b3, b4⟩, hσ1, -, -, hs, hg⟩ := hI
  obtain ⟨⟨c1, c2, c3, c4⟩, r2, r3, r4, r5⟩ := h
  refine ⟨⟨hs, b1, grp_congr (fun q hq j hj => ?_) (fun q hq => r3 q hq) (fun q m hq hm => r4 q m hq hm) hg⟩, hσ1, ⟨⟨c1, c2, c3, by show u ≤ 1000; omega⟩, fun p _ => keq_rf _ _, fun p _ => rfl, fun p m _ _ => ⟨rfl, rfl, rfl⟩, hs⟩⟩
  show rolA σ i ks T.1 (8 * σ q + j) = rolK i T.2.1 q j
  rw [rolA_at (by omega) inj T.1 c4 q j hq (by omega)]
  unfold rolK
  by_cases e : j = i
  · rw [if_pos e, if_pos e]
  · rw [if_neg e, if_neg e]; exact r2 q hq j hj
end
section
set_option maxHeartbeats 4000000 in
set_option maxRecDepth 100000 in
/-- roll -/
theorem c_roll (l : Launch) (hnt : l.stackTraces = false) (dC : Nat → ClassId) (dI : Nat → Nat → Nat) (a : Nat → Nat) (k : Nat → ClassId) (wn mn : Nat) (fk : Nat → Int32) (fa : Nat → Int64) (T : TB) (σ : Nat → Nat) (sl ks : Nat → Int32) (ct sm le gr : Nat → Int64) (hσ : perm σ sl) (hrep : repT σ wn mn T ks ct sm le gr) (i : Int32) (sz : Nat) : vx_Met l yX_roll (Cond.code yX_roll bX_roll 3 (some .int) :: wAll) { frames := 6, cells := 1, slots := 6, locals := 160 } (va_Pc [.ref (a 0), .int i] (fun U => U.heap.size = sz ∧ va_P (dC, dI) classes (wX a k (nI wn) (nI mn) (nI T.1) fk fa sl ks ct sm le gr) U.heap ∧ va_K (dC, dI) classes (kX k) U ∧ va_D (fun _ => True) (wX a k (nI wn) (nI mn) (nI T.1) fk fa sl ks ct sm le gr) ∧ thrE (va_A (wX a k (nI wn) (nI mn) (nI T.1) fk fa sl ks ct sm le gr) sz) U U.heap)) (va_Qi (fun (r9 : Int32) (u9 : TB) => (0 ≤ i ∧ i < nI wn) ∧ r9 = nI u9.1 ∧ rollR wn mn i.toNatClampNeg T u9) (fun (u9 : TB) (t9 : State) => atX dC dI (va_A (wX a k (nI wn) (nI mn) (nI T.1) fk fa sl ks ct sm le gr) sz) a k wn mn fk fa u9 t9) (va_A (wX a k (nI wn) (nI mn) (nI T.1) fk fa sl ks ct sm le gr) sz)) (vx_X (fun _ : Unit => ¬ (0 ≤ i ∧ i < nI wn)) (fun (E9 : String) (_ : Unit) (t9 : State) => E9 = "java/lang/IllegalArgumentException" ∧ va_P (dC, dI) classes (wX a k (nI wn) (nI mn) (nI T.1) fk fa sl ks ct sm le gr) t9.heap ∧ va_K (dC, dI) classes (kX k) t9 ∧ va_D (va_A (wX a k (nI wn) (nI mn) (nI T.1) fk fa sl ks ct sm le gr) sz) (wX a k (nI wn) (nI mn) (nI T.1) fk fa sl ks ct sm le gr)) (va_A (wX a k (nI wn) (nI mn) (nI T.1) fk fa sl ks ct sm le gr) sz)) 1 6 (va_A (wX a k (nI wn) (nI mn) (nI T.1) fk fa sl ks ct sm le gr) sz) := by
  refine vx_ofW (cc := bX_roll) (maxL := 3) (ret := (some .int)) (by decide) rfl ?_
  intro p e s m args below meth c s₁ B hml hno hv
  obtain ⟨rfl, hsz, hP, hK, hD0, hT⟩ := hv
  have hx := B.exec
  have hb := B.bytes
  have hr := B.returns
  have hta : ∀ w ∈ wAll, w.before ([.ref (a 0), .int i] : List Value).toArray s = true := fun w h => atoms_spec (ws := (Cond.code yX_roll bX_roll 3 (some .int) :: wAll)) B.pre w (List.mem_cons_of_mem _ h)
  have hown : s.vm.findClass "GroupRows" = some m.cls := findClass_of_methodNamed B.named
  have hlocks := B.notSynchronized
  subst hsz
  have hD := hD0.self (sz := s.heap.size)
  generalize hAe : va_A (wX a k (nI wn) (nI mn) (nI T.1) fk fa sl ks ct sm le gr) s.heap.size = A at hD hT ⊢
  have hA : ∀ q : Nat, s.heap.size ≤ q → A q := fun q h => by rw [← hAe]; exact Or.inr h
  have hS : va_S A s.heap s.heap [] := va_S.rf
  have hP : va_P (dC, dI) classes (wX a k (nI wn) (nI mn) (nI T.1) fk fa sl ks ct sm le gr) s.heap := hP
  have hl := lv_entry ([.ref (a 0), .int i]) (n := 3) (Nat.le_of_ble_eq_true rfl)
  rw [lg_entry_eq]
  generalize (lg_sl ([.ref (a 0), .int i]) ++ List.replicate (3 - (lg_sl ([.ref (a 0), .int i])).length) Slot.unset).toArray = ls at hl ⊢
  have hl : lv_has ls 3 [(0, .ref (a 0)), (1, .int i)] := hl
  obtain ⟨⟨hwn, hmn1, hmn, hn⟩, hk9, hc9, hv9, hs9⟩ := id hrep
  refine lv_aload_n hx hb dX_roll_0 rfl (lv_at hl 0 rfl) ?_
  refine lv_iload_n hx hb dX_roll_1 rfl (lv_at hl 1 rfl) ?_
  refine gi_callR (v := .int (if 0 ≤ i ∧ i < nI wn then 1 else 0)) (W.runV (As := [.int i]) (rest := []) ⟨hx, hb, hml, hown, hta⟩ (c_isPart l dC dI a k (nI wn) (nI mn) (nI T.1) fk fa sl ks ct sm le gr i) (cwV 1 hta (gV w166 w168 sX_isPart w1 w169) rfl rfl rfl (by decide +kernel) ⟨Nat.le_of_ble_eq_true rfl, Nat.le_of_ble_eq_true rfl⟩) ⟨gb_R, va_recv hK hP (ci := 0) (q0 := 0) rfl rfl, fun U hU hW => ⟨rfl, by rw [hU]; exact hP, va_K.moved hW.alike hK⟩⟩ rfl rfl hl.1 rfl (lv_room (Nat.le_of_ble_eq_true rfl)) dX_roll_2 ⟨Nat.le_of_ble_eq_true rfl, Nat.le_of_ble_eq_true rfl⟩) ?_
  refine lv_if_ne (tgt := 18) hx hb dX_roll_5 (by decide) (fun h1 => ?_) (fun h1 => ?_)
  rotate_left
  · skip
    have hn9 : ¬ (0 ≤ i ∧ i < nI wn) := fun q => by rw [if_pos q] at h1; exact absurd h1 (by decide)
    exact gx_throw (is := 67) (text := "there is no such part") hx hb hnt hown hta hT hS (hl.1.trans hml.symm) (by decide) dX_roll_8 dX_roll_11 dX_roll_12 dX_roll_14 dX_roll_17 hno (Nat.le_of_ble_eq_true rfl) (Nat.le_of_ble_eq_true rfl) (Nat.le_of_ble_eq_true rfl) (Nat.le_of_ble_eq_true rfl) hlocks (fun t9 hv9 hz9 hk9 => ⟨(), hn9, ⟨rfl, gx_P hP hk9, va_K.moved hv9 hK, hD⟩, gx_F hS hz9 hk9⟩) hS.2.2 (Nat.le_of_ble_eq_true rfl) (Nat.le_of_ble_eq_true rfl)
  · skip
    have hL : 0 ≤ i ∧ i < nI wn := by
      by_cases q : 0 ≤ i ∧ i < nI wn
      · exact q
      · rw [if_neg q] at h1; exact absurd rfl h1
    obtain ⟨j, hj, ej, cj⟩ := in_nI (by omega) hL
    subst ej
    refine lv_iconst (v := 0) hx hb dX_roll_18 (by decide) ?_
    refine gi_as (y := nI 0) (nI_0.symm) ?_
    refine lv_istore_n (lv' := [(2, .int (nI 0)), (0, .ref (a 0)), (1, .int (nI j))]) hx hb dX_roll_19 rfl hl (by decide) rfl (fun ls hl => ?_)
    have loop : ∀ (kk pp : Nat), pp + kk = T.1 → ∀ (H : Heap) (locs : List Loc), va_P (dC, dI) classes (wX a k (nI wn) (nI mn) (nI T.1) fk fa sl (rolA σ j ks pp) ct sm le gr) H → va_D A (wX a k (nI wn) (nI mn) (nI T.1) fk fa sl (rolA σ j ks pp) ct sm le gr) → va_S A s.heap H locs → ∀ (ls : Array Slot), lv_has ls 3 [(2, .int (nI pp)), (1, .int (nI j)), (0, .ref (a 0))] → W p l e (headSpec (Cond.code yX_roll bX_roll 3 (some .int) :: wAll) { frames := 6, cells := 1, slots := 6, locals := 160 }).room s m ([.ref (a 0), .int (nI j)] : List Value).toArray below meth c H locs 0 0 (vx_MQ below (va_Qi (fun (r9 : Int32) (u9 : TB) => (0 ≤ nI j ∧ nI j < nI wn) ∧ r9 = nI u9.1 ∧ rollR wn mn (nI j).toNatClampNeg T u9) (fun (u9 : TB) (t9 : State) => atX dC dI A a k wn mn fk fa u9 t9) A) (vx_X (fun _ : Unit => ¬ (0 ≤ nI j ∧ nI j < nI wn)) (fun (E9 : String) (_ : Unit) (t9 : State) => E9 = "java/lang/IllegalArgumentException" ∧ va_P (dC, dI) classes (wX a k (nI wn) (nI mn) (nI T.1) fk fa sl ks ct sm le gr) t9.heap ∧ va_K (dC, dI) classes (kX k) t9 ∧ va_D A (wX a k (nI wn) (nI mn) (nI T.1) fk fa sl ks ct sm le gr)) A) ([.ref (a 0), .int (nI j)] : List Value).toArray s 1 6 A) (F0 m 20 ls []) := by
      intro kk
      induction kk with
      | zero =>
        intro pp hpp H locs hP hD hS ls hl
        refine lv_iload_n hx hb dX_roll_20 rfl (lv_at hl 0 rfl) ?_
        refine lv_aload_n hx hb dX_roll_21 rfl (lv_at hl 2 rfl) ?_
        refine va_get (D := (dC, dI)) (ci := 0) (v := .int (nI T.1)) (C := "GroupRows") (T := FX) (N := 11) hx hb hta inX hown hK hP 0 rfl rfl 2 (by decide) (hta _ w21) (fun _ h9 => h9) rfl dX_roll_22 ?_
        refine lv_icmp_ge (tgt := 52) hx hb dX_roll_25 (by decide) (fun h1 => ?_) (fun h1 => ?_)
        · skip
          have hj9 : T.1 = pp := by omega
          subst hj9
          refine lv_aload_n hx hb dX_roll_52 rfl (lv_at hl 2 rfl) ?_
          refine lv_aload_n hx hb dX_roll_53 rfl (lv_at hl 2 rfl) ?_
          have hPc := hP
          have hDc := hD
          have hKc := hK
          have hFc := va_free (wc := (wX a k (nI wn) (nI mn) (nI T.1) fk fa sl (rolA σ j ks T.1) ct sm le gr)) hD hS hA [0, 1, 2, 3, 4, 5, 6, 7, 8] rfl
          refine va_calli (va_runV (As := []) (rest := [.ref (a 0)]) ⟨hx, hb, hml, hown, hta⟩ (c_regroup l dC dI a k wn mn T.1 fk fa σ sl (rolA σ j ks T.1) ct sm le gr hσ hwn hmn hn H.size) (cwV 0 hta (gV w239 w241 sX_regroup w1 w242) rfl rfl rfl (by decide +kernel) ⟨Nat.le_of_ble_eq_true rfl, Nat.le_of_ble_eq_true rfl⟩) ⟨gb_W, va_recv hKc hPc (ci := 0) (q0 := 0) rfl rfl, fun U hU hW => ⟨rfl, by rw [hU], by rw [hU]; exact hPc, va_K.moved hW.alike hKc, hDc.weaken (fun _ _ _ _ => trivial)⟩⟩ rfl rfl hl.1 rfl (lv_room (Nat.le_of_ble_eq_true rfl)) dX_roll_54 ⟨Nat.le_of_ble_eq_true rfl, Nat.le_of_ble_eq_true rfl⟩) hS (fun q _ h => hFc q h) hFc (fun r_9 u t H1 locs ht hvm hw hB hz1 hk1 hS => ?_)
          obtain ⟨σ1, sl1, ct1, sm1, le1, gr1, hI, hP1, hK1, hD1⟩ := hB
          rw [ht] at hP1
          obtain ⟨hP, hD⟩ := va_join (wr := []) (w1 := (wX a k (nI wn) (nI mn) (nI T.1) fk fa sl1 (rolA σ j ks T.1) ct1 sm1 le1 gr1)) hP hD [0, 1, 2, 3, 4, 5, 6, 7, 8] [] rfl rfl (by decide) (by decide) hk1 hFc hP1 hD1
          generalize H1 = H at hP hS ⊢
          have hP : va_P (dC, dI) classes (wX a k (nI wn) (nI mn) (nI T.1) fk fa sl1 (rolA σ j ks T.1) ct1 sm1 le1 gr1) H := hP
          have hD : va_D A (wX a k (nI wn) (nI mn) (nI T.1) fk fa sl1 (rolA σ j ks T.1) ct1 sm1 le1 gr1) := hD
          rw [hw]
          refine va_put (D := (dC, dI)) (ci := 0) (v := .int (nI u)) (ty := .int) (C := "GroupRows") (T := FX) (N := 11) hx hb hta inX tX tXok nX hown hK hP hD hS 0 rfl rfl 2 (by decide) (hta _ w21) (fun _ h9 => h9) rfl (by decide +kernel) rfl rfl (Nat.le_of_ble_eq_true rfl) dX_roll_57 (fun H locs hP hD hS => ?_)
          have hP : va_P (dC, dI) classes (wX a k (nI wn) (nI mn) (nI u) fk fa sl1 (rolA σ j ks T.1) ct1 sm1 le1 gr1) H := hP
          have hD : va_D A (wX a k (nI wn) (nI mn) (nI u) fk fa sl1 (rolA σ j ks T.1) ct1 sm1 le1 gr1) := hD
          refine lv_aload_n hx hb dX_roll_60 rfl (lv_at hl 2 rfl) ?_
          refine va_get (D := (dC, dI)) (ci := 0) (v := .int (nI u)) (C := "GroupRows") (T := FX) (N := 11) hx hb hta inX hown hK hP 0 rfl rfl 2 (by decide) (hta _ w21) (fun _ h9 => h9) rfl dX_roll_61 ?_
          obtain ⟨hroll, hσ9, hr9⟩ := rg_roll hj hσ.2.2 hrep hI
          refine vx_ret ?_
          refine W.widen (k := 1) (n := 6) (Nat.zero_le _) (Nat.zero_le _) ?_
          exact W.iret (v := (nI u)) hx hb hr (fun t9 ht9 hW9 => ⟨⟨(nI u), rgT u σ1 (rolA σ j ks T.1) ct1 sm1 le1 gr1, rfl, ⟨hL, rfl, by rw [cj]; exact hroll⟩, ⟨σ1, sl1, rolA σ j ks T.1, ct1, sm1, le1, gr1, ⟨hσ9, hr9⟩, by rw [ht9]; exact hP, va_K.moved hW9.alike hK, hD⟩⟩, hS.F ht9⟩) hS.2.2 dX_roll_64
        · skip
          exact absurd (nI_le (by omega) (by omega)) h1
      | succ kk ih =>
        intro pp hpp H locs hP hD hS ls hl
        refine lv_iload_n hx hb dX_roll_20 rfl (lv_at hl 0 rfl) ?_
        refine lv_aload_n hx hb dX_roll_21 rfl (lv_at hl 2 rfl) ?_
        refine va_get (D := (dC, dI)) (ci := 0) (v := .int (nI T.1)) (C := "GroupRows") (T := FX) (N := 11) hx hb hta inX hown hK hP 0 rfl rfl 2 (by decide) (hta _ w21) (fun _ h9 => h9) rfl dX_roll_22 ?_
        refine lv_icmp_ge (tgt := 52) hx hb dX_roll_25 (by decide) (fun h1 => ?_) (fun h1 => ?_)
        · skip
          exact absurd h1 (nI_ge (a := pp) (by omega) (by omega))
        · skip
          have hσp := hσ.2.1 pp (by omega)
          refine lv_aload_n hx hb dX_roll_28 rfl (lv_at hl 2 rfl) ?_
          refine va_get (D := (dC, dI)) (ci := 0) (v := .ref (a 4)) (C := "GroupRows") (T := FX) (N := 11) hx hb hta inX hown hK hP 0 rfl rfl 6 (by decide) (hta _ w25) (fun _ h9 => h9) rfl dX_roll_29 ?_
          refine lv_aload_n hx hb dX_roll_32 rfl (lv_at hl 2 rfl) ?_
          refine va_get (D := (dC, dI)) (ci := 0) (v := .ref (a 3)) (C := "GroupRows") (T := FX) (N := 11) hx hb hta inX hown hK hP 0 rfl rfl 5 (by decide) (hta _ w24) (fun _ h9 => h9) rfl dX_roll_33 ?_
          refine lv_iload_n hx hb dX_roll_36 rfl (lv_at hl 0 rfl) ?_
          refine gi_iald hx hb hK hP 3 2 rfl rfl (k := pp) (by omega) (by decide) dX_roll_37 ?_
          refine gi_as (y := nI (σ pp)) (hσ.1 pp (by omega)) ?_
          refine lv_bipush (v := 8) hx hb dX_roll_38 (by decide) ?_
          refine lv_imul hx hb dX_roll_40 ?_
          refine gi_as (y := nI (8 * (σ pp))) (gi_mul8 _) ?_
          refine lv_iload_n hx hb dX_roll_41 rfl (lv_at hl 1 rfl) ?_
          refine lv_iadd hx hb dX_roll_42 ?_
          refine gi_as (y := nI ((8 * (σ pp)) + j)) (nI_add _ _) ?_
          refine lv_ldc (v := 2147483647) hx hb hown (hta _ w238) dX_roll_43 ?_
          refine gi_iast hx hb hK hP hD hS 4 3 rfl rfl (k := ((8 * (σ pp)) + j)) (by omega) (by decide) dX_roll_45 (fun H locs hP hD hS => ?_)
          have hP : va_P (dC, dI) classes (wX a k (nI wn) (nI mn) (nI T.1) fk fa sl (upd (rolA σ j ks pp) ((8 * (σ pp)) + j) 2147483647) ct sm le gr) H := hP
          have hD : va_D A (wX a k (nI wn) (nI mn) (nI T.1) fk fa sl (upd (rolA σ j ks pp) ((8 * (σ pp)) + j) 2147483647) ct sm le gr) := hD
          refine lv_iinc (v := (nI (pp + 1))) (lv' := [(2, .int (nI (pp + 1))), (1, .int (nI j)), (0, .ref (a 0))]) hx hb dX_roll_46 hl (k := 0) rfl (nI_1 _) (by decide) rfl (fun ls hl => ?_)
          refine lv_goto (tgt := 20) hx hb dX_roll_49 (by decide) ?_
          have hl := lv_sub hl [0, 1, 2] rfl
          have hl : lv_has ls 3 [(2, .int (nI (pp + 1))), (1, .int (nI j)), (0, .ref (a 0))] := hl
          exact ih (pp + 1) (by omega) H locs hP hD hS ls hl
    have hl := lv_sub hl [0, 2, 1] rfl
    have hl : lv_has ls 3 [(2, .int (nI 0)), (1, .int (nI j)), (0, .ref (a 0))] := hl
    exact loop T.1 0 (by omega) s.heap [] hP hD hS ls hl
set_option maxHeartbeats 4000000 in
set_option maxRecDepth 100000 in
/-- spread -/
theorem c_spread (l : Launch) (hnt : l.stackTraces = false) (dC : Nat → ClassId) (dI : Nat → Nat → Nat) (a : Nat → Nat) (k : Nat → ClassId) (wn mn : Nat) (fk : Nat → Int32) (fa : Nat → Int64) (T : TB) (σ : Nat → Nat) (sl ks : Nat → Int32) (ct sm le gr : Nat → Int64) (hσ : perm σ sl) (hrep : repT σ wn mn T ks ct sm le gr) (nn i st : Int32) (sz : Nat) : vx_Met l yX_spread (Cond.code yX_spread bX_spread 5 (some .int) :: wAll) { frames := 6, cells := 1, slots := 6, locals := 160 } (va_Pc [.ref (a 0), .int nn, .int i, .int st] (fun U => U.heap.size = sz ∧ va_P (dC, dI) classes (wX a k (nI wn) (nI mn) (nI T.1) fk fa sl ks ct sm le gr) U.heap ∧ va_K (dC, dI) classes (kX k) U ∧ va_D (fun _ => True) (wX a k (nI wn) (nI mn) (nI T.1) fk fa sl ks ct sm le gr) ∧ thrE (va_A (wX a k (nI wn) (nI mn) (nI T.1) fk fa sl ks ct sm le gr) sz) U U.heap)) (va_Qi (fun (r9 : Int32) (_ : Unit) => ((0 ≤ i ∧ i < nI wn) ∧ 1 ≤ nn ∧ nn ≤ 5000) ∧ r9 = (nI (sprT wn mn i.toNatClampNeg st nn.toNatClampNeg 0 fk fa T).1)) (fun (_ : Unit) (t9 : State) => atX dC dI (va_A (wX a k (nI wn) (nI mn) (nI T.1) fk fa sl ks ct sm le gr) sz) a k wn mn (sprT wn mn i.toNatClampNeg st nn.toNatClampNeg 0 fk fa T).2.1 (sprT wn mn i.toNatClampNeg st nn.toNatClampNeg 0 fk fa T).2.2.1 (sprT wn mn i.toNatClampNeg st nn.toNatClampNeg 0 fk fa T).2.2.2 t9) (va_A (wX a k (nI wn) (nI mn) (nI T.1) fk fa sl ks ct sm le gr) sz)) (vx_X (fun _ : Unit => ¬ ((0 ≤ i ∧ i < nI wn) ∧ 1 ≤ nn ∧ nn ≤ 5000)) (fun (E9 : String) (_ : Unit) (t9 : State) => E9 = "java/lang/IllegalArgumentException" ∧ va_P (dC, dI) classes (wX a k (nI wn) (nI mn) (nI T.1) fk fa sl ks ct sm le gr) t9.heap ∧ va_K (dC, dI) classes (kX k) t9 ∧ va_D (va_A (wX a k (nI wn) (nI mn) (nI T.1) fk fa sl ks ct sm le gr) sz) (wX a k (nI wn) (nI mn) (nI T.1) fk fa sl ks ct sm le gr)) (va_A (wX a k (nI wn) (nI mn) (nI T.1) fk fa sl ks ct sm le gr) sz)) 1 6 (va_A (wX a k (nI wn) (nI mn) (nI T.1) fk fa sl ks ct sm le gr) sz) := by
  refine vx_ofW (cc := bX_spread) (maxL := 5) (ret := (some .int)) (by decide) rfl ?_
  intro p e s m args below meth c s₁ B hml hno hv
  obtain ⟨rfl, hsz, hP, hK, hD0, hT⟩ := hv
  have hx := B.exec
  have hb := B.bytes
  have hr := B.returns
  have hta : ∀ w ∈ wAll, w.before ([.ref (a 0), .int nn, .int i, .int st] : List Value).toArray s = true := fun w h => atoms_spec (ws := (Cond.code yX_spread bX_spread 5 (some .int) :: wAll)) B.pre w (List.mem_cons_of_mem _ h)
  have hown : s.vm.findClass "GroupRows" = some m.cls := findClass_of_methodNamed B.named
  have hlocks := B.notSynchronized
  subst hsz
  have hD := hD0.self (sz := s.heap.size)
  generalize hAe : va_A (wX a k (nI wn) (nI mn) (nI T.1) fk fa sl ks ct sm le gr) s.heap.size = A at hD hT ⊢
  have hA : ∀ q : Nat, s.heap.size ≤ q → A q := fun q h => by rw [← hAe]; exact Or.inr h
  have hS : va_S A s.heap s.heap [] := va_S.rf
  have hP : va_P (dC, dI) classes (wX a k (nI wn) (nI mn) (nI T.1) fk fa sl ks ct sm le gr) s.heap := hP
  have hl := lv_entry ([.ref (a 0), .int nn, .int i, .int st]) (n := 5) (Nat.le_of_ble_eq_true rfl)
  rw [lg_entry_eq]
  generalize (lg_sl ([.ref (a 0), .int nn, .int i, .int st]) ++ List.replicate (5 - (lg_sl ([.ref (a 0), .int nn, .int i, .int st])).length) Slot.unset).toArray = ls at hl ⊢
  have hl : lv_has ls 5 [(0, .ref (a 0)), (1, .int nn), (2, .int i), (3, .int st)] := hl
  obtain ⟨⟨hwn, hmn1, hmn, hn⟩, hk9, hc9, hv9, hs9⟩ := id hrep
  refine lv_aload_n hx hb dX_spread_0 rfl (lv_at hl 0 rfl) ?_
  refine lv_iload_n hx hb dX_spread_1 rfl (lv_at hl 2 rfl) ?_
  refine gi_callR (v := .int (if 0 ≤ i ∧ i < nI wn then 1 else 0)) (W.runV (As := [.int i]) (rest := []) ⟨hx, hb, hml, hown, hta⟩ (c_isPart l dC dI a k (nI wn) (nI mn) (nI T.1) fk fa sl ks ct sm le gr i) (cwV 1 hta (gV w166 w168 sX_isPart w1 w169) rfl rfl rfl (by decide +kernel) ⟨Nat.le_of_ble_eq_true rfl, Nat.le_of_ble_eq_true rfl⟩) ⟨gb_R, va_recv hK hP (ci := 0) (q0 := 0) rfl rfl, fun U hU hW => ⟨rfl, by rw [hU]; exact hP, va_K.moved hW.alike hK⟩⟩ rfl rfl hl.1 rfl (lv_room (Nat.le_of_ble_eq_true rfl)) dX_spread_2 ⟨Nat.le_of_ble_eq_true rfl, Nat.le_of_ble_eq_true rfl⟩) ?_
  refine lv_if_ne (tgt := 18) hx hb dX_spread_5 (by decide) (fun h1 => ?_) (fun h1 => ?_)
  rotate_left
  · skip
    have hn9 : ¬ (0 ≤ i ∧ i < nI wn) := fun q => by rw [if_pos q] at h1; exact absurd h1 (by decide)
    exact gx_throw (is := 67) (text := "there is no such part") hx hb hnt hown hta hT hS (hl.1.trans hml.symm) (by decide) dX_spread_8 dX_spread_11 dX_spread_12 dX_spread_14 dX_spread_17 hno (Nat.le_of_ble_eq_true rfl) (Nat.le_of_ble_eq_true rfl) (Nat.le_of_ble_eq_true rfl) (Nat.le_of_ble_eq_true rfl) hlocks (fun t9 hv9 hz9 hk9 => ⟨(), fun q => hn9 q.1, ⟨rfl, gx_P hP hk9, va_K.moved hv9 hK, hD⟩, gx_F hS hz9 hk9⟩) hS.2.2 (Nat.le_of_ble_eq_true rfl) (Nat.le_of_ble_eq_true rfl)
  · skip
    have hL : 0 ≤ i ∧ i < nI wn := by
      by_cases q : 0 ≤ i ∧ i < nI wn
      · exact q
      · rw [if_neg q] at h1; exact absurd rfl h1
    refine lv_iload_n hx hb dX_spread_18 rfl (lv_at hl 1 rfl) ?_
    refine lv_iconst (v := 1) hx hb dX_spread_19 (by decide) ?_
    refine lv_icmp_lt (tgt := 30) hx hb dX_spread_20 (by decide) (fun h2 => ?_) (fun h2 => ?_)
    · skip
      exact gx_throw (is := 80) (text := "n is not 1 .. 5000") hx hb hnt hown hta hT hS (hl.1.trans hml.symm) (by decide) dX_spread_30 dX_spread_33 dX_spread_34 dX_spread_36 dX_spread_39 hno (Nat.le_of_ble_eq_true rfl) (Nat.le_of_ble_eq_true rfl) (Nat.le_of_ble_eq_true rfl) (Nat.le_of_ble_eq_true rfl) hlocks (fun t9 hv9 hz9 hk9 => ⟨(), fun q => absurd q.2.1 (Int32.not_le.mpr h2), ⟨rfl, gx_P hP hk9, va_K.moved hv9 hK, hD⟩, gx_F hS hz9 hk9⟩) hS.2.2 (Nat.le_of_ble_eq_true rfl) (Nat.le_of_ble_eq_true rfl)
    · skip
      refine lv_iload_n hx hb dX_spread_23 rfl (lv_at hl 1 rfl) ?_
      refine lv_sipush (v := 5000) hx hb dX_spread_24 (by decide) ?_
      refine lv_icmp_le (tgt := 40) hx hb dX_spread_27 (by decide) (fun h3 => ?_) (fun h3 => ?_)
      · skip
        have hL2 : (0 ≤ i ∧ i < nI wn) ∧ 1 ≤ nn ∧ nn ≤ 5000 := ⟨hL, Int32.not_lt.mp h2, h3⟩
        obtain ⟨j, hj, ej, cj⟩ := in_nI (by omega) hL
        obtain ⟨N, hN, eN, cN⟩ := in_le (n := 5000) (by decide) ⟨i32_0le1 hL2.2.1, hL2.2.2⟩
        subst ej
        subst eN
        refine lv_iconst (v := 0) hx hb dX_spread_40 (by decide) ?_
        refine gi_as (y := nI 0) (nI_0.symm) ?_
        refine lv_istore (lv' := [(4, .int (nI 0)), (0, .ref (a 0)), (1, .int (nI N)), (2, .int (nI j)), (3, .int st)]) hx hb dX_spread_41 hl (by decide) rfl (fun ls hl => ?_)
        have loop : ∀ (kk cm : Nat) (fk1 : Nat → Int32) (fa1 : Nat → Int64) (T1 : TB) (σ1 : Nat → Nat) (sl1 ks1 : Nat → Int32) (ct1 sm1 le1 gr1 : Nat → Int64), cm + kk = N → perm σ1 sl1 → repT σ1 wn mn T1 ks1 ct1 sm1 le1 gr1 → sprT wn mn j st N 0 fk fa T = sprT wn mn j st kk cm fk1 fa1 T1 → ∀ (H : Heap) (locs : List Loc), va_P (dC, dI) classes (wX a k (nI wn) (nI mn) (nI T1.1) fk1 fa1 sl1 ks1 ct1 sm1 le1 gr1) H → va_D A (wX a k (nI wn) (nI mn) (nI T1.1) fk1 fa1 sl1 ks1 ct1 sm1 le1 gr1) → va_S A s.heap H locs → ∀ (ls : Array Slot), lv_has ls 5 [(4, .int (nI cm)), (0, .ref (a 0)), (1, .int (nI N)), (2, .int (nI j)), (3, .int st)] → W p l e (headSpec (Cond.code yX_spread bX_spread 5 (some .int) :: wAll) { frames := 6, cells := 1, slots := 6, locals := 160 }).room s m ([.ref (a 0), .int (nI N), .int (nI j), .int st] : List Value).toArray below meth c H locs 0 0 (vx_MQ below (va_Qi (fun (r9 : Int32) (_ : Unit) => ((0 ≤ nI j ∧ nI j < nI wn) ∧ 1 ≤ nI N ∧ nI N ≤ 5000) ∧ r9 = (nI (sprT wn mn (nI j).toNatClampNeg st (nI N).toNatClampNeg 0 fk fa T).1)) (fun (_ : Unit) (t9 : State) => atX dC dI A a k wn mn (sprT wn mn (nI j).toNatClampNeg st (nI N).toNatClampNeg 0 fk fa T).2.1 (sprT wn mn (nI j).toNatClampNeg st (nI N).toNatClampNeg 0 fk fa T).2.2.1 (sprT wn mn (nI j).toNatClampNeg st (nI N).toNatClampNeg 0 fk fa T).2.2.2 t9) A) (vx_X (fun _ : Unit => ¬ ((0 ≤ nI j ∧ nI j < nI wn) ∧ 1 ≤ nI N ∧ nI N ≤ 5000)) (fun (E9 : String) (_ : Unit) (t9 : State) => E9 = "java/lang/IllegalArgumentException" ∧ va_P (dC, dI) classes (wX a k (nI wn) (nI mn) (nI T.1) fk fa sl ks ct sm le gr) t9.heap ∧ va_K (dC, dI) classes (kX k) t9 ∧ va_D A (wX a k (nI wn) (nI mn) (nI T.1) fk fa sl ks ct sm le gr)) A) ([.ref (a 0), .int (nI N), .int (nI j), .int st] : List Value).toArray s 1 6 A) (F0 m 43 ls []) := by
          intro kk
          induction kk with
          | zero =>
            intro cm fk1 fa1 T1 σ1 sl1 ks1 ct1 sm1 le1 gr1 hcm hσ1 hr1 hsp H locs hP hD hS ls hl
            refine lv_iload hx hb dX_spread_43 (lv_at hl 0 rfl) ?_
            refine lv_iload_n hx hb dX_spread_45 rfl (lv_at hl 2 rfl) ?_
            refine lv_icmp_ge (tgt := 77) hx hb dX_spread_46 (by decide) (fun h4 => ?_) (fun h4 => ?_)
            · skip
              refine lv_iload_n hx hb dX_spread_77 rfl (lv_at hl 2 rfl) ?_
              have e9 : sprT wn mn j st N 0 fk fa T = (cm, fk1, fa1, T1) := hsp
              refine vx_ret ?_
              refine W.widen (k := 1) (n := 6) (Nat.zero_le _) (Nat.zero_le _) ?_
              exact W.iret (v := (nI N)) hx hb hr (fun t9 ht9 hW9 => ⟨⟨(nI N), (), rfl, ⟨hL2, by rw [cj, cN, e9]; show nI N = nI cm; rw [show N = cm by omega]⟩, by rw [cj, cN, e9]; exact ⟨σ1, sl1, ks1, ct1, sm1, le1, gr1, ⟨hσ1, hr1⟩, by rw [ht9]; exact hP, va_K.moved hW9.alike hK, hD⟩⟩, hS.F ht9⟩) hS.2.2 dX_spread_78
            · skip
              exact absurd (nI_le (by omega) (by omega)) h4
          | succ kk ih =>
            intro cm fk1 fa1 T1 σ1 sl1 ks1 ct1 sm1 le1 gr1 hcm hσ1 hr1 hsp H locs hP hD hS ls hl
            refine lv_iload hx hb dX_spread_43 (lv_at hl 0 rfl) ?_
            refine lv_iload_n hx hb dX_spread_45 rfl (lv_at hl 2 rfl) ?_
            refine lv_icmp_ge (tgt := 77) hx hb dX_spread_46 (by decide) (fun h4 => ?_) (fun h4 => ?_)
            · skip
              exact absurd h4 (nI_ge (a := cm) (by omega) (by omega))
            · skip
              have mid : ∀ (fk2 : Nat → Int32) (fa2 : Nat → Int64), fk2 = (if cm = 0 then fk1 else stK fk1 j st) → fa2 = (if cm = 0 then fa1 else stA fa1 mn st) → ∀ (H : Heap) (locs : List Loc), va_P (dC, dI) classes (wX a k (nI wn) (nI mn) (nI T1.1) fk2 fa2 sl1 ks1 ct1 sm1 le1 gr1) H → va_D A (wX a k (nI wn) (nI mn) (nI T1.1) fk2 fa2 sl1 ks1 ct1 sm1 le1 gr1) → va_S A s.heap H locs → ∀ (ls : Array Slot), lv_has ls 5 [(4, .int (nI cm)), (0, .ref (a 0)), (1, .int (nI N)), (2, .int (nI j)), (3, .int st)] → W p l e (headSpec (Cond.code yX_spread bX_spread 5 (some .int) :: wAll) { frames := 6, cells := 1, slots := 6, locals := 160 }).room s m ([.ref (a 0), .int (nI N), .int (nI j), .int st] : List Value).toArray below meth c H locs 0 0 (vx_MQ below (va_Qi (fun (r9 : Int32) (_ : Unit) => ((0 ≤ nI j ∧ nI j < nI wn) ∧ 1 ≤ nI N ∧ nI N ≤ 5000) ∧ r9 = (nI (sprT wn mn (nI j).toNatClampNeg st (nI N).toNatClampNeg 0 fk fa T).1)) (fun (_ : Unit) (t9 : State) => atX dC dI A a k wn mn (sprT wn mn (nI j).toNatClampNeg st (nI N).toNatClampNeg 0 fk fa T).2.1 (sprT wn mn (nI j).toNatClampNeg st (nI N).toNatClampNeg 0 fk fa T).2.2.1 (sprT wn mn (nI j).toNatClampNeg st (nI N).toNatClampNeg 0 fk fa T).2.2.2 t9) A) (vx_X (fun _ : Unit => ¬ ((0 ≤ nI j ∧ nI j < nI wn) ∧ 1 ≤ nI N ∧ nI N ≤ 5000)) (fun (E9 : String) (_ : Unit) (t9 : State) => E9 = "java/lang/IllegalArgumentException" ∧ va_P (dC, dI) classes (wX a k (nI wn) (nI mn) (nI T.1) fk fa sl ks ct sm le gr) t9.heap ∧ va_K (dC, dI) classes (kX k) t9 ∧ va_D A (wX a k (nI wn) (nI mn) (nI T.1) fk fa sl ks ct sm le gr)) A) ([.ref (a 0), .int (nI N), .int (nI j), .int st] : List Value).toArray s 1 6 A) (F0 m 60 ls []) := by
                intro fk2 fa2 ek ea H locs hP hD hS ls hl
                refine lv_aload_n hx hb dX_spread_60 rfl (lv_at hl 1 rfl) ?_
                refine lv_iconst (v := 1) hx hb dX_spread_61 (by decide) ?_
                have hr1s := hr1
                have hPc := hP
                have hDc := hD
                have hKc := hK
                have hFc := va_free (wc := (wX a k (nI wn) (nI mn) (nI T1.1) fk2 fa2 sl1 ks1 ct1 sm1 le1 gr1)) hD hS hA [0, 1, 2, 3, 4, 5, 6, 7, 8] rfl
                refine va_calli (va_runV (As := [.int 1]) (rest := []) ⟨hx, hb, hml, hown, hta⟩ (c_takeFact l dC dI a k wn mn fk2 fa2 T1 σ1 sl1 ks1 ct1 sm1 le1 gr1 hσ1 hr1 1 H.size) (cwV 1 hta (gV w192 w194 sX_takeFact w1 w195) rfl rfl rfl (by decide +kernel) ⟨Nat.le_of_ble_eq_true rfl, Nat.le_of_ble_eq_true rfl⟩) ⟨gb_W, va_recv hKc hPc (ci := 0) (q0 := 0) rfl rfl, fun U hU hW => ⟨rfl, by rw [hU], by rw [hU]; exact hPc, va_K.moved hW.alike hKc, hDc.weaken (fun _ _ _ _ => trivial)⟩⟩ rfl rfl hl.1 rfl (lv_room (Nat.le_of_ble_eq_true rfl)) dX_spread_62 ⟨Nat.le_of_ble_eq_true rfl, Nat.le_of_ble_eq_true rfl⟩) hS (fun q _ h => hFc q h) hFc (fun r_9 u t H1 locs ht hvm hw hB hz1 hk1 hS => ?_)
                rw [i64_one] at hw hB
                obtain ⟨σ2, sl2, ks2, ct2, sm2, le2, gr2, ⟨hσ2, hr2⟩, hP1, hK1, hD1⟩ := hB
                rw [ht] at hP1
                obtain ⟨hP, hD⟩ := va_join (wr := []) (w1 := (wX a k (nI wn) (nI mn) (nI (takeT wn fk2 fa2 1 T1).1.1) fk2 fa2 sl2 ks2 ct2 sm2 le2 gr2)) hP hD [0, 1, 2, 3, 4, 5, 6, 7, 8] [] rfl rfl (by decide) (by decide) hk1 hFc hP1 hD1
                generalize H1 = H at hP hS ⊢
                have hP : va_P (dC, dI) classes (wX a k (nI wn) (nI mn) (nI (takeT wn fk2 fa2 1 T1).1.1) fk2 fa2 sl2 ks2 ct2 sm2 le2 gr2) H := hP
                have hD : va_D A (wX a k (nI wn) (nI mn) (nI (takeT wn fk2 fa2 1 T1).1.1) fk2 fa2 sl2 ks2 ct2 sm2 le2 gr2) := hD
                refine lv_if_ne (tgt := 71) hx hb dX_spread_65 (by decide) (fun h6 => ?_) (fun h6 => ?_)
                · skip
                  rw [hw] at h6
                  have hb9 : (takeT wn fk2 fa2 1 T1).2 = true := by
                    by_cases q : (takeT wn fk2 fa2 1 T1).2 = true
                    · exact q
                    · rw [if_neg q] at h6; exact absurd rfl h6
                  refine lv_iinc (v := (nI (cm + 1))) (lv' := [(4, .int (nI (cm + 1))), (0, .ref (a 0)), (1, .int (nI N)), (2, .int (nI j)), (3, .int st)]) hx hb dX_spread_71 hl (k := 0) rfl (nI_1 _) (by decide) rfl (fun ls hl => ?_)
                  refine lv_goto (tgt := 43) hx hb dX_spread_74 (by decide) ?_
                  have hl := lv_sub hl [0, 1, 2, 3, 4] rfl
                  have hl : lv_has ls 5 [(4, .int (nI (cm + 1))), (0, .ref (a 0)), (1, .int (nI N)), (2, .int (nI j)), (3, .int st)] := hl
                  exact ih (cm + 1) fk2 fa2 (takeT wn fk2 fa2 1 T1).1 σ2 sl2 ks2 ct2 sm2 le2 gr2 (by omega) hσ2 hr2 (hsp.trans (sprT_yes ek ea hb9)) H locs hP hD hS ls hl
                · skip
                  rw [hw] at h6
                  have hb9 : ¬ (takeT wn fk2 fa2 1 T1).2 = true := fun q => by rw [if_pos q] at h6; exact absurd h6 (by decide)
                  have e8 := takeT_no hb9
                  rw [e8] at hr2 hP hD
                  have e9 : sprT wn mn j st N 0 fk fa T = (cm, fk2, fa2, T1) := hsp.trans (sprT_no ek ea hb9)
                  refine lv_iload hx hb dX_spread_68 (lv_at hl 0 rfl) ?_
                  refine vx_ret ?_
                  refine W.widen (k := 1) (n := 6) (Nat.zero_le _) (Nat.zero_le _) ?_
                  exact W.iret (v := (nI cm)) hx hb hr (fun t9 ht9 hW9 => ⟨⟨(nI cm), (), rfl, ⟨hL2, by rw [cj, cN, e9]⟩, by rw [cj, cN, e9]; exact ⟨σ2, sl2, ks2, ct2, sm2, le2, gr2, ⟨hσ2, hr2⟩, by rw [ht9]; exact hP, va_K.moved hW9.alike hK, hD⟩⟩, hS.F ht9⟩) hS.2.2 dX_spread_70
              refine lv_iload hx hb dX_spread_49 (lv_at hl 0 rfl) ?_
              refine lv_if_le (tgt := 60) hx hb dX_spread_51 (by decide) (fun h5 => ?_) (fun h5 => ?_)
              · skip
                have h5 : cm = 0 := by
                  rcases Nat.eq_zero_or_pos cm with q | q
                  · exact q
                  · exact absurd h5 (nI_nle q (by omega))
                exact mid fk1 fa1 (if_pos h5).symm (if_pos h5).symm H locs hP hD hS ls hl
              · skip
                have h5 : ¬ cm = 0 := fun q => h5 (by rw [q, nI_0]; decide)
                refine lv_aload_n hx hb dX_spread_54 rfl (lv_at hl 1 rfl) ?_
                refine lv_iload_n hx hb dX_spread_55 rfl (lv_at hl 3 rfl) ?_
                refine lv_iload_n hx hb dX_spread_56 rfl (lv_at hl 4 rfl) ?_
                have hPc := hP
                have hDc := hD
                have hKc := hK
                have hFc := va_free (wc := (wX a k (nI wn) (nI mn) (nI T1.1) fk1 fa1 sl1 ks1 ct1 sm1 le1 gr1)) hD hS hA [0, 1, 2, 3, 4, 5, 6, 7, 8] rfl
                refine va_callv (va_runV (As := [.int (nI j), .int st]) (rest := []) ⟨hx, hb, hml, hown, hta⟩ (c_stepFact l dC dI a k mn (nI wn) (nI T1.1) fk1 fa1 sl1 ks1 ct1 sm1 le1 gr1 j st (by omega) hmn H.size) (cwV 2 hta (gV w227 w229 sX_stepFact w1 w230) rfl rfl rfl (by decide +kernel) ⟨Nat.le_of_ble_eq_true rfl, Nat.le_of_ble_eq_true rfl⟩) ⟨gb_W, va_recv hKc hPc (ci := 0) (q0 := 0) rfl rfl, fun U hU hW => ⟨rfl, by rw [hU], by rw [hU]; exact hPc, va_K.moved hW.alike hKc, hDc.weaken (fun _ _ _ _ => trivial)⟩⟩ rfl rfl hl.1 rfl (lv_room (Nat.le_of_ble_eq_true rfl)) dX_spread_57 ⟨Nat.le_of_ble_eq_true rfl, Nat.le_of_ble_eq_true rfl⟩) hS (fun q _ h => hFc q h) hFc (fun u t H1 locs ht hvm hw hB hz1 hk1 hS => ?_)
                obtain ⟨hP1, hK1, hD1⟩ := hB
                rw [ht] at hP1
                obtain ⟨hP, hD⟩ := va_join (wr := []) (w1 := (wX a k (nI wn) (nI mn) (nI T1.1) (upd fk1 j (fk1 j + st)) (upTo (fun _ x => x + st.toInt64) 0 fa1 mn) sl1 ks1 ct1 sm1 le1 gr1)) hP hD [0, 1, 2, 3, 4, 5, 6, 7, 8] [] rfl rfl (by decide) (by decide) hk1 hFc hP1 hD1
                generalize H1 = H at hP hS ⊢
                have hP : va_P (dC, dI) classes (wX a k (nI wn) (nI mn) (nI T1.1) (upd fk1 j (fk1 j + st)) (upTo (fun _ x => x + st.toInt64) 0 fa1 mn) sl1 ks1 ct1 sm1 le1 gr1) H := hP
                have hD : va_D A (wX a k (nI wn) (nI mn) (nI T1.1) (upd fk1 j (fk1 j + st)) (upTo (fun _ x => x + st.toInt64) 0 fa1 mn) sl1 ks1 ct1 sm1 le1 gr1) := hD
                exact mid _ _ (if_neg h5).symm ((upTo_stA fa1 mn st).trans (if_neg h5).symm) H locs hP hD hS ls hl
        have hl := lv_sub hl [0, 1, 2, 3, 4] rfl
        have hl : lv_has ls 5 [(4, .int (nI 0)), (0, .ref (a 0)), (1, .int (nI N)), (2, .int (nI j)), (3, .int st)] := hl
        exact loop N 0 fk fa T σ sl ks ct sm le gr (by omega) hσ hrep rfl s.heap [] hP hD hS ls hl
      · skip
        exact gx_throw (is := 80) (text := "n is not 1 .. 5000") hx hb hnt hown hta hT hS (hl.1.trans hml.symm) (by decide) dX_spread_30 dX_spread_33 dX_spread_34 dX_spread_36 dX_spread_39 hno (Nat.le_of_ble_eq_true rfl) (Nat.le_of_ble_eq_true rfl) (Nat.le_of_ble_eq_true rfl) (Nat.le_of_ble_eq_true rfl) hlocks (fun t9 hv9 hz9 hk9 => ⟨(), fun q => h3 q.2.2, ⟨rfl, gx_P hP hk9, va_K.moved hv9 hK, hD⟩, gx_F hS hz9 hk9⟩) hS.2.2 (Nat.le_of_ble_eq_true rfl) (Nat.le_of_ble_eq_true rfl)
end
section
def TB0 : TB := (0, fun _ _ => 0, fun _ => 0, fun _ _ => 0, fun _ _ => 0, fun _ _ => 0)
theorem rep_0 {σ : Nat → Nat} {w mn : Nat} {ks : Nat → Int32} {ct sm le gr : Nat → Int64} (h1 : w ≤ 8) (h2 : 1 ≤ mn) (h3 : mn ≤ 8) : repT σ w mn TB0 ks ct sm le gr := ⟨⟨h1, h2, h3, Nat.zero_le _⟩, fun p hp => absurd hp (Nat.not_lt_zero p), fun p hp => absurd hp (Nat.not_lt_zero p), fun p m hp => absurd hp (Nat.not_lt_zero p), fun p q _ h => absurd h (Nat.not_lt_zero q)⟩
theorem perm_id : perm (fun p => p) (upToI (fun m _ => nI m) 0 (fun _ => 0) 1000) := ⟨fun p hp => by have := upToI_at (g := fun m _ => nI m) (q8 := 0) (f := fun _ => 0) 1000 hp; rw [Nat.zero_add] at this; exact this, fun p hp => hp, fun p q _ _ h => h⟩
set_option maxHeartbeats 4000000 in
set_option maxRecDepth 100000 in
/-- the constructor of the class -/
theorem c_Xinit (l : Launch) (dC : Nat → ClassId) (dI : Nat → Nat → Nat) (h0 sz : Nat) : Met l yX_init (Cond.code yX_init bX_init 2 none :: wAll) { frames := 1, cells := 8, slots := 34016, locals := 32 } (va_Pc [.ref h0] (fun U => U.heap.size = sz ∧ va_P (dC, dI) classes [(h0, .inr (0, [.int 0, .int 0, .int 0, .null, .null, .null, .null, .null, .null, .null, .null]))] U.heap ∧ va_K (dC, dI) classes [] U ∧ va_D (fun _ => True) [(h0, .inr (0, [.int 0, .int 0, .int 0, .null, .null, .null, .null, .null, .null, .null, .null]))])) (va_Qv (fun _ : Unit => True) (fun (_ : Unit) (t9 : State) => ∃ (a : Nat → Nat) (k : Nat → ClassId), a 0 = h0 ∧ atX dC dI (va_A [(h0, .inr (0, [.int 0, .int 0, .int 0, .null, .null, .null, .null, .null, .null, .null, .null]))] sz) a k 0 1 (fun _ => 0) (fun _ => 0) TB0 t9) (va_A [(h0, .inr (0, [.int 0, .int 0, .int 0, .null, .null, .null, .null, .null, .null, .null, .null]))] sz)) 8 34016 (va_A [(h0, .inr (0, [.int 0, .int 0, .int 0, .null, .null, .null, .null, .null, .null, .null, .null]))] sz) := by
  refine Met.ofW (cc := bX_init) (maxL := 2) (ret := none) (by decide) rfl ?_
  intro p e s m args below meth c s₁ B hml hv
  obtain ⟨rfl, hsz, hP, hK, hD0⟩ := hv
  have hx := B.exec
  have hb := B.bytes
  have hr := B.returns
  have hta : ∀ w ∈ wAll, w.before ([.ref h0] : List Value).toArray s = true := fun w h => atoms_spec (ws := (Cond.code yX_init bX_init 2 none :: wAll)) B.pre w (List.mem_cons_of_mem _ h)
  have hown : s.vm.findClass "GroupRows" = some m.cls := findClass_of_methodNamed B.named
  have hlocks := B.notSynchronized
  have hin : meth.name = "<init>" := (name_of_methodNamed B.named B.method).1
  subst hsz
  have hD := hD0.self (sz := s.heap.size)
  generalize hAe : va_A [(h0, .inr (0, [.int 0, .int 0, .int 0, .null, .null, .null, .null, .null, .null, .null, .null]))] s.heap.size = A at hD ⊢
  have hA : ∀ q : Nat, s.heap.size ≤ q → A q := fun q h => by rw [← hAe]; exact Or.inr h
  have hS : va_S A s.heap s.heap [] := va_S.rf
  have hP : va_P (dC, dI) classes [(h0, .inr (0, [.int 0, .int 0, .int 0, .null, .null, .null, .null, .null, .null, .null, .null]))] s.heap := hP
  have hl := lv_entry ([.ref h0]) (n := 2) (Nat.le_of_ble_eq_true rfl)
  rw [lg_entry_eq]
  generalize (lg_sl ([.ref h0]) ++ List.replicate (2 - (lg_sl ([.ref h0])).length) Slot.unset).toArray = ls at hl ⊢
  have hl : lv_has ls 2 [(0, .ref h0)] := hl
  refine lv_aload_n hx hb dX_init_0 rfl (lv_at hl 0 rfl) ?_
  refine W.objInit hx hb hown (hta _ w16) (hta _ w17) (hta _ w18) rfl (by rw [hml]; exact hl.1) rfl dX_init_1 (Nat.le_of_ble_eq_true rfl) (Nat.le_of_ble_eq_true rfl) ?_
  refine W.eq (g2 := F0 m 4 ls []) rfl ?_
  refine lv_aload_n hx hb dX_init_4 rfl (lv_at hl 0 rfl) ?_
  refine lv_iconst (v := 0) hx hb dX_init_5 (by decide) ?_
  refine va_put (D := (dC, dI)) (ci := 0) (v := .int 0) (ty := .int) (C := "GroupRows") (T := FX) (N := 11) hx hb hta inX tX tXok nX hown hK hP hD hS 0 rfl rfl 0 (by decide) (hta _ w19) (fun _ h9 => h9) rfl (by decide +kernel) rfl rfl (Nat.le_of_ble_eq_true rfl) dX_init_6 (fun H locs hP hD hS => ?_)
  have hP : va_P (dC, dI) classes [(h0, .inr (0, [.int 0, .int 0, .int 0, .null, .null, .null, .null, .null, .null, .null, .null]))] H := hP
  have hD : va_D A [(h0, .inr (0, [.int 0, .int 0, .int 0, .null, .null, .null, .null, .null, .null, .null, .null]))] := hD
  refine lv_aload_n hx hb dX_init_9 rfl (lv_at hl 0 rfl) ?_
  refine lv_iconst (v := 1) hx hb dX_init_10 (by decide) ?_
  refine va_put (D := (dC, dI)) (ci := 0) (v := .int 1) (ty := .int) (C := "GroupRows") (T := FX) (N := 11) hx hb hta inX tX tXok nX hown hK hP hD hS 0 rfl rfl 1 (by decide) (hta _ w20) (fun _ h9 => h9) rfl (by decide +kernel) rfl rfl (Nat.le_of_ble_eq_true rfl) dX_init_11 (fun H locs hP hD hS => ?_)
  have hP : va_P (dC, dI) classes [(h0, .inr (0, [.int 0, .int 1, .int 0, .null, .null, .null, .null, .null, .null, .null, .null]))] H := hP
  have hD : va_D A [(h0, .inr (0, [.int 0, .int 1, .int 0, .null, .null, .null, .null, .null, .null, .null, .null]))] := hD
  refine lv_aload_n hx hb dX_init_14 rfl (lv_at hl 0 rfl) ?_
  refine lv_iconst (v := 0) hx hb dX_init_15 (by decide) ?_
  refine va_put (D := (dC, dI)) (ci := 0) (v := .int 0) (ty := .int) (C := "GroupRows") (T := FX) (N := 11) hx hb hta inX tX tXok nX hown hK hP hD hS 0 rfl rfl 2 (by decide) (hta _ w21) (fun _ h9 => h9) rfl (by decide +kernel) rfl rfl (Nat.le_of_ble_eq_true rfl) dX_init_16 (fun H locs hP hD hS => ?_)
  have hP : va_P (dC, dI) classes [(h0, .inr (0, [.int 0, .int 1, .int 0, .null, .null, .null, .null, .null, .null, .null, .null]))] H := hP
  have hD : va_D A [(h0, .inr (0, [.int 0, .int 1, .int 0, .null, .null, .null, .null, .null, .null, .null, .null]))] := hD
  refine lv_aload_n hx hb dX_init_19 rfl (lv_at hl 0 rfl) ?_
  refine lv_bipush (v := 8) hx hb dX_init_20 (by decide) ?_
  refine va_newa (atype := .int) (ty := .int) (N' := 8) (a0 := (8, .inl (fun _ => 0))) hx hb (hta _ w53) rfl hK hP hD hS hA (fun _ => rfl) (by decide) (by decide) (by decide) (Nat.le_of_ble_eq_true rfl) (Nat.le_of_ble_eq_true rfl) dX_init_22 (fun q1 k1 H hK hP hD hS => ?_)
  have hP : va_P (dC, dI) classes [(h0, .inr (0, [.int 0, .int 1, .int 0, .null, .null, .null, .null, .null, .null, .null, .null])), (q1, .inl (k1, 8, .inl (fun _ => 0)))] H := hP
  have hD : va_D A [(h0, .inr (0, [.int 0, .int 1, .int 0, .null, .null, .null, .null, .null, .null, .null, .null])), (q1, .inl (k1, 8, .inl (fun _ => 0)))] := hD
  have hK : va_K (dC, dI) classes [(k1, .int)] s := hK
  refine W.cs (cells' := 1) (slots' := 8) rfl rfl ?_
  refine va_putF (D := (dC, dI)) (ci := 0) (v := .ref q1) (ty := (.array .int)) (C := "GroupRows") (T := FX) (N := 11) hx hb hta inX tX tXok nX hown hK hP hD hS 0 rfl rfl 3 (by decide) (hta _ w22) (fun _ h9 => h9) rfl hin rfl (by decide +kernel) rfl rfl (Nat.le_of_ble_eq_true rfl) dX_init_24 (fun H locs hP hD hS => ?_)
  have hP : va_P (dC, dI) classes [(h0, .inr (0, [.int 0, .int 1, .int 0, .ref q1, .null, .null, .null, .null, .null, .null, .null])), (q1, .inl (k1, 8, .inl (fun _ => 0)))] H := hP
  have hD : va_D A [(h0, .inr (0, [.int 0, .int 1, .int 0, .ref q1, .null, .null, .null, .null, .null, .null, .null])), (q1, .inl (k1, 8, .inl (fun _ => 0)))] := hD
  refine lv_aload_n hx hb dX_init_27 rfl (lv_at hl 0 rfl) ?_
  refine lv_bipush (v := 8) hx hb dX_init_28 (by decide) ?_
  refine va_newa (atype := .long) (ty := .long) (N' := 8) (a0 := (8, .inr (.inl (fun _ => 0)))) hx hb (hta _ w54) rfl hK hP hD hS hA (fun _ => rfl) (by decide) (by decide) (by decide) (Nat.le_of_ble_eq_true rfl) (Nat.le_of_ble_eq_true rfl) dX_init_30 (fun q2 k2 H hK hP hD hS => ?_)
  have hP : va_P (dC, dI) classes [(h0, .inr (0, [.int 0, .int 1, .int 0, .ref q1, .null, .null, .null, .null, .null, .null, .null])), (q1, .inl (k1, 8, .inl (fun _ => 0))), (q2, .inl (k2, 8, .inr (.inl (fun _ => 0))))] H := hP
  have hD : va_D A [(h0, .inr (0, [.int 0, .int 1, .int 0, .ref q1, .null, .null, .null, .null, .null, .null, .null])), (q1, .inl (k1, 8, .inl (fun _ => 0))), (q2, .inl (k2, 8, .inr (.inl (fun _ => 0))))] := hD
  have hK : va_K (dC, dI) classes [(k1, .int), (k2, .long)] s := hK
  refine W.cs (cells' := 2) (slots' := 16) rfl rfl ?_
  refine va_putF (D := (dC, dI)) (ci := 0) (v := .ref q2) (ty := (.array .long)) (C := "GroupRows") (T := FX) (N := 11) hx hb hta inX tX tXok nX hown hK hP hD hS 0 rfl rfl 4 (by decide) (hta _ w23) (fun _ h9 => h9) rfl hin rfl (by decide +kernel) rfl rfl (Nat.le_of_ble_eq_true rfl) dX_init_32 (fun H locs hP hD hS => ?_)
  have hP : va_P (dC, dI) classes [(h0, .inr (0, [.int 0, .int 1, .int 0, .ref q1, .ref q2, .null, .null, .null, .null, .null, .null])), (q1, .inl (k1, 8, .inl (fun _ => 0))), (q2, .inl (k2, 8, .inr (.inl (fun _ => 0))))] H := hP
  have hD : va_D A [(h0, .inr (0, [.int 0, .int 1, .int 0, .ref q1, .ref q2, .null, .null, .null, .null, .null, .null])), (q1, .inl (k1, 8, .inl (fun _ => 0))), (q2, .inl (k2, 8, .inr (.inl (fun _ => 0))))] := hD
  refine lv_aload_n hx hb dX_init_35 rfl (lv_at hl 0 rfl) ?_
  refine lv_sipush (v := 1000) hx hb dX_init_36 (by decide) ?_
  refine va_newa (atype := .int) (ty := .int) (N' := 1000) (a0 := (1000, .inl (fun _ => 0))) hx hb (hta _ w53) rfl hK hP hD hS hA (fun _ => rfl) (by decide) (by decide) (by decide) (Nat.le_of_ble_eq_true rfl) (Nat.le_of_ble_eq_true rfl) dX_init_39 (fun q3 k3 H hK hP hD hS => ?_)
  have hP : va_P (dC, dI) classes [(h0, .inr (0, [.int 0, .int 1, .int 0, .ref q1, .ref q2, .null, .null, .null, .null, .null, .null])), (q1, .inl (k1, 8, .inl (fun _ => 0))), (q2, .inl (k2, 8, .inr (.inl (fun _ => 0)))), (q3, .inl (k3, 1000, .inl (fun _ => 0)))] H := hP
  have hD : va_D A [(h0, .inr (0, [.int 0, .int 1, .int 0, .ref q1, .ref q2, .null, .null, .null, .null, .null, .null])), (q1, .inl (k1, 8, .inl (fun _ => 0))), (q2, .inl (k2, 8, .inr (.inl (fun _ => 0)))), (q3, .inl (k3, 1000, .inl (fun _ => 0)))] := hD
  have hK : va_K (dC, dI) classes [(k1, .int), (k2, .long), (k3, .int)] s := hK
  refine W.cs (cells' := 3) (slots' := 1016) rfl rfl ?_
  refine va_putF (D := (dC, dI)) (ci := 0) (v := .ref q3) (ty := (.array .int)) (C := "GroupRows") (T := FX) (N := 11) hx hb hta inX tX tXok nX hown hK hP hD hS 0 rfl rfl 5 (by decide) (hta _ w24) (fun _ h9 => h9) rfl hin rfl (by decide +kernel) rfl rfl (Nat.le_of_ble_eq_true rfl) dX_init_41 (fun H locs hP hD hS => ?_)
  have hP : va_P (dC, dI) classes [(h0, .inr (0, [.int 0, .int 1, .int 0, .ref q1, .ref q2, .ref q3, .null, .null, .null, .null, .null])), (q1, .inl (k1, 8, .inl (fun _ => 0))), (q2, .inl (k2, 8, .inr (.inl (fun _ => 0)))), (q3, .inl (k3, 1000, .inl (fun _ => 0)))] H := hP
  have hD : va_D A [(h0, .inr (0, [.int 0, .int 1, .int 0, .ref q1, .ref q2, .ref q3, .null, .null, .null, .null, .null])), (q1, .inl (k1, 8, .inl (fun _ => 0))), (q2, .inl (k2, 8, .inr (.inl (fun _ => 0)))), (q3, .inl (k3, 1000, .inl (fun _ => 0)))] := hD
  refine lv_aload_n hx hb dX_init_44 rfl (lv_at hl 0 rfl) ?_
  refine lv_sipush (v := 8000) hx hb dX_init_45 (by decide) ?_
  refine va_newa (atype := .int) (ty := .int) (N' := 8000) (a0 := (8000, .inl (fun _ => 0))) hx hb (hta _ w53) rfl hK hP hD hS hA (fun _ => rfl) (by decide) (by decide) (by decide) (Nat.le_of_ble_eq_true rfl) (Nat.le_of_ble_eq_true rfl) dX_init_48 (fun q4 k4 H hK hP hD hS => ?_)
  have hP : va_P (dC, dI) classes [(h0, .inr (0, [.int 0, .int 1, .int 0, .ref q1, .ref q2, .ref q3, .null, .null, .null, .null, .null])), (q1, .inl (k1, 8, .inl (fun _ => 0))), (q2, .inl (k2, 8, .inr (.inl (fun _ => 0)))), (q3, .inl (k3, 1000, .inl (fun _ => 0))), (q4, .inl (k4, 8000, .inl (fun _ => 0)))] H := hP
  have hD : va_D A [(h0, .inr (0, [.int 0, .int 1, .int 0, .ref q1, .ref q2, .ref q3, .null, .null, .null, .null, .null])), (q1, .inl (k1, 8, .inl (fun _ => 0))), (q2, .inl (k2, 8, .inr (.inl (fun _ => 0)))), (q3, .inl (k3, 1000, .inl (fun _ => 0))), (q4, .inl (k4, 8000, .inl (fun _ => 0)))] := hD
  have hK : va_K (dC, dI) classes [(k1, .int), (k2, .long), (k3, .int), (k4, .int)] s := hK
  refine W.cs (cells' := 4) (slots' := 9016) rfl rfl ?_
  refine va_putF (D := (dC, dI)) (ci := 0) (v := .ref q4) (ty := (.array .int)) (C := "GroupRows") (T := FX) (N := 11) hx hb hta inX tX tXok nX hown hK hP hD hS 0 rfl rfl 6 (by decide) (hta _ w25) (fun _ h9 => h9) rfl hin rfl (by decide +kernel) rfl rfl (Nat.le_of_ble_eq_true rfl) dX_init_50 (fun H locs hP hD hS => ?_)
  have hP : va_P (dC, dI) classes [(h0, .inr (0, [.int 0, .int 1, .int 0, .ref q1, .ref q2, .ref q3, .ref q4, .null, .null, .null, .null])), (q1, .inl (k1, 8, .inl (fun _ => 0))), (q2, .inl (k2, 8, .inr (.inl (fun _ => 0)))), (q3, .inl (k3, 1000, .inl (fun _ => 0))), (q4, .inl (k4, 8000, .inl (fun _ => 0)))] H := hP
  have hD : va_D A [(h0, .inr (0, [.int 0, .int 1, .int 0, .ref q1, .ref q2, .ref q3, .ref q4, .null, .null, .null, .null])), (q1, .inl (k1, 8, .inl (fun _ => 0))), (q2, .inl (k2, 8, .inr (.inl (fun _ => 0)))), (q3, .inl (k3, 1000, .inl (fun _ => 0))), (q4, .inl (k4, 8000, .inl (fun _ => 0)))] := hD
  refine lv_aload_n hx hb dX_init_53 rfl (lv_at hl 0 rfl) ?_
  refine lv_sipush (v := 1000) hx hb dX_init_54 (by decide) ?_
  refine va_newa (atype := .long) (ty := .long) (N' := 1000) (a0 := (1000, .inr (.inl (fun _ => 0)))) hx hb (hta _ w54) rfl hK hP hD hS hA (fun _ => rfl) (by decide) (by decide) (by decide) (Nat.le_of_ble_eq_true rfl) (Nat.le_of_ble_eq_true rfl) dX_init_57 (fun q5 k5 H hK hP hD hS => ?_)
  have hP : va_P (dC, dI) classes [(h0, .inr (0, [.int 0, .int 1, .int 0, .ref q1, .ref q2, .ref q3, .ref q4, .null, .null, .null, .null])), (q1, .inl (k1, 8, .inl (fun _ => 0))), (q2, .inl (k2, 8, .inr (.inl (fun _ => 0)))), (q3, .inl (k3, 1000, .inl (fun _ => 0))), (q4, .inl (k4, 8000, .inl (fun _ => 0))), (q5, .inl (k5, 1000, .inr (.inl (fun _ => 0))))] H := hP
  have hD : va_D A [(h0, .inr (0, [.int 0, .int 1, .int 0, .ref q1, .ref q2, .ref q3, .ref q4, .null, .null, .null, .null])), (q1, .inl (k1, 8, .inl (fun _ => 0))), (q2, .inl (k2, 8, .inr (.inl (fun _ => 0)))), (q3, .inl (k3, 1000, .inl (fun _ => 0))), (q4, .inl (k4, 8000, .inl (fun _ => 0))), (q5, .inl (k5, 1000, .inr (.inl (fun _ => 0))))] := hD
  have hK : va_K (dC, dI) classes [(k1, .int), (k2, .long), (k3, .int), (k4, .int), (k5, .long)] s := hK
  refine W.cs (cells' := 5) (slots' := 10016) rfl rfl ?_
  refine va_putF (D := (dC, dI)) (ci := 0) (v := .ref q5) (ty := (.array .long)) (C := "GroupRows") (T := FX) (N := 11) hx hb hta inX tX tXok nX hown hK hP hD hS 0 rfl rfl 7 (by decide) (hta _ w26) (fun _ h9 => h9) rfl hin rfl (by decide +kernel) rfl rfl (Nat.le_of_ble_eq_true rfl) dX_init_59 (fun H locs hP hD hS => ?_)
  have hP : va_P (dC, dI) classes [(h0, .inr (0, [.int 0, .int 1, .int 0, .ref q1, .ref q2, .ref q3, .ref q4, .ref q5, .null, .null, .null])), (q1, .inl (k1, 8, .inl (fun _ => 0))), (q2, .inl (k2, 8, .inr (.inl (fun _ => 0)))), (q3, .inl (k3, 1000, .inl (fun _ => 0))), (q4, .inl (k4, 8000, .inl (fun _ => 0))), (q5, .inl (k5, 1000, .inr (.inl (fun _ => 0))))] H := hP
  have hD : va_D A [(h0, .inr (0, [.int 0, .int 1, .int 0, .ref q1, .ref q2, .ref q3, .ref q4, .ref q5, .null, .null, .null])), (q1, .inl (k1, 8, .inl (fun _ => 0))), (q2, .inl (k2, 8, .inr (.inl (fun _ => 0)))), (q3, .inl (k3, 1000, .inl (fun _ => 0))), (q4, .inl (k4, 8000, .inl (fun _ => 0))), (q5, .inl (k5, 1000, .inr (.inl (fun _ => 0))))] := hD
  refine lv_aload_n hx hb dX_init_62 rfl (lv_at hl 0 rfl) ?_
  refine lv_sipush (v := 8000) hx hb dX_init_63 (by decide) ?_
  refine va_newa (atype := .long) (ty := .long) (N' := 8000) (a0 := (8000, .inr (.inl (fun _ => 0)))) hx hb (hta _ w54) rfl hK hP hD hS hA (fun _ => rfl) (by decide) (by decide) (by decide) (Nat.le_of_ble_eq_true rfl) (Nat.le_of_ble_eq_true rfl) dX_init_66 (fun q6 k6 H hK hP hD hS => ?_)
  have hP : va_P (dC, dI) classes [(h0, .inr (0, [.int 0, .int 1, .int 0, .ref q1, .ref q2, .ref q3, .ref q4, .ref q5, .null, .null, .null])), (q1, .inl (k1, 8, .inl (fun _ => 0))), (q2, .inl (k2, 8, .inr (.inl (fun _ => 0)))), (q3, .inl (k3, 1000, .inl (fun _ => 0))), (q4, .inl (k4, 8000, .inl (fun _ => 0))), (q5, .inl (k5, 1000, .inr (.inl (fun _ => 0)))), (q6, .inl (k6, 8000, .inr (.inl (fun _ => 0))))] H := hP
  have hD : va_D A [(h0, .inr (0, [.int 0, .int 1, .int 0, .ref q1, .ref q2, .ref q3, .ref q4, .ref q5, .null, .null, .null])), (q1, .inl (k1, 8, .inl (fun _ => 0))), (q2, .inl (k2, 8, .inr (.inl (fun _ => 0)))), (q3, .inl (k3, 1000, .inl (fun _ => 0))), (q4, .inl (k4, 8000, .inl (fun _ => 0))), (q5, .inl (k5, 1000, .inr (.inl (fun _ => 0)))), (q6, .inl (k6, 8000, .inr (.inl (fun _ => 0))))] := hD
  have hK : va_K (dC, dI) classes [(k1, .int), (k2, .long), (k3, .int), (k4, .int), (k5, .long), (k6, .long)] s := hK
  refine W.cs (cells' := 6) (slots' := 18016) rfl rfl ?_
  refine va_putF (D := (dC, dI)) (ci := 0) (v := .ref q6) (ty := (.array .long)) (C := "GroupRows") (T := FX) (N := 11) hx hb hta inX tX tXok nX hown hK hP hD hS 0 rfl rfl 8 (by decide) (hta _ w27) (fun _ h9 => h9) rfl hin rfl (by decide +kernel) rfl rfl (Nat.le_of_ble_eq_true rfl) dX_init_68 (fun H locs hP hD hS => ?_)
  have hP : va_P (dC, dI) classes [(h0, .inr (0, [.int 0, .int 1, .int 0, .ref q1, .ref q2, .ref q3, .ref q4, .ref q5, .ref q6, .null, .null])), (q1, .inl (k1, 8, .inl (fun _ => 0))), (q2, .inl (k2, 8, .inr (.inl (fun _ => 0)))), (q3, .inl (k3, 1000, .inl (fun _ => 0))), (q4, .inl (k4, 8000, .inl (fun _ => 0))), (q5, .inl (k5, 1000, .inr (.inl (fun _ => 0)))), (q6, .inl (k6, 8000, .inr (.inl (fun _ => 0))))] H := hP
  have hD : va_D A [(h0, .inr (0, [.int 0, .int 1, .int 0, .ref q1, .ref q2, .ref q3, .ref q4, .ref q5, .ref q6, .null, .null])), (q1, .inl (k1, 8, .inl (fun _ => 0))), (q2, .inl (k2, 8, .inr (.inl (fun _ => 0)))), (q3, .inl (k3, 1000, .inl (fun _ => 0))), (q4, .inl (k4, 8000, .inl (fun _ => 0))), (q5, .inl (k5, 1000, .inr (.inl (fun _ => 0)))), (q6, .inl (k6, 8000, .inr (.inl (fun _ => 0))))] := hD
  refine lv_aload_n hx hb dX_init_71 rfl (lv_at hl 0 rfl) ?_
  refine lv_sipush (v := 8000) hx hb dX_init_72 (by decide) ?_
  refine va_newa (atype := .long) (ty := .long) (N' := 8000) (a0 := (8000, .inr (.inl (fun _ => 0)))) hx hb (hta _ w54) rfl hK hP hD hS hA (fun _ => rfl) (by decide) (by decide) (by decide) (Nat.le_of_ble_eq_true rfl) (Nat.le_of_ble_eq_true rfl) dX_init_75 (fun q7 k7 H hK hP hD hS => ?_)
  have hP : va_P (dC, dI) classes [(h0, .inr (0, [.int 0, .int 1, .int 0, .ref q1, .ref q2, .ref q3, .ref q4, .ref q5, .ref q6, .null, .null])), (q1, .inl (k1, 8, .inl (fun _ => 0))), (q2, .inl (k2, 8, .inr (.inl (fun _ => 0)))), (q3, .inl (k3, 1000, .inl (fun _ => 0))), (q4, .inl (k4, 8000, .inl (fun _ => 0))), (q5, .inl (k5, 1000, .inr (.inl (fun _ => 0)))), (q6, .inl (k6, 8000, .inr (.inl (fun _ => 0)))), (q7, .inl (k7, 8000, .inr (.inl (fun _ => 0))))] H := hP
  have hD : va_D A [(h0, .inr (0, [.int 0, .int 1, .int 0, .ref q1, .ref q2, .ref q3, .ref q4, .ref q5, .ref q6, .null, .null])), (q1, .inl (k1, 8, .inl (fun _ => 0))), (q2, .inl (k2, 8, .inr (.inl (fun _ => 0)))), (q3, .inl (k3, 1000, .inl (fun _ => 0))), (q4, .inl (k4, 8000, .inl (fun _ => 0))), (q5, .inl (k5, 1000, .inr (.inl (fun _ => 0)))), (q6, .inl (k6, 8000, .inr (.inl (fun _ => 0)))), (q7, .inl (k7, 8000, .inr (.inl (fun _ => 0))))] := hD
  have hK : va_K (dC, dI) classes [(k1, .int), (k2, .long), (k3, .int), (k4, .int), (k5, .long), (k6, .long), (k7, .long)] s := hK
  refine W.cs (cells' := 7) (slots' := 26016) rfl rfl ?_
  refine va_putF (D := (dC, dI)) (ci := 0) (v := .ref q7) (ty := (.array .long)) (C := "GroupRows") (T := FX) (N := 11) hx hb hta inX tX tXok nX hown hK hP hD hS 0 rfl rfl 9 (by decide) (hta _ w28) (fun _ h9 => h9) rfl hin rfl (by decide +kernel) rfl rfl (Nat.le_of_ble_eq_true rfl) dX_init_77 (fun H locs hP hD hS => ?_)
  have hP : va_P (dC, dI) classes [(h0, .inr (0, [.int 0, .int 1, .int 0, .ref q1, .ref q2, .ref q3, .ref q4, .ref q5, .ref q6, .ref q7, .null])), (q1, .inl (k1, 8, .inl (fun _ => 0))), (q2, .inl (k2, 8, .inr (.inl (fun _ => 0)))), (q3, .inl (k3, 1000, .inl (fun _ => 0))), (q4, .inl (k4, 8000, .inl (fun _ => 0))), (q5, .inl (k5, 1000, .inr (.inl (fun _ => 0)))), (q6, .inl (k6, 8000, .inr (.inl (fun _ => 0)))), (q7, .inl (k7, 8000, .inr (.inl (fun _ => 0))))] H := hP
  have hD : va_D A [(h0, .inr (0, [.int 0, .int 1, .int 0, .ref q1, .ref q2, .ref q3, .ref q4, .ref q5, .ref q6, .ref q7, .null])), (q1, .inl (k1, 8, .inl (fun _ => 0))), (q2, .inl (k2, 8, .inr (.inl (fun _ => 0)))), (q3, .inl (k3, 1000, .inl (fun _ => 0))), (q4, .inl (k4, 8000, .inl (fun _ => 0))), (q5, .inl (k5, 1000, .inr (.inl (fun _ => 0)))), (q6, .inl (k6, 8000, .inr (.inl (fun _ => 0)))), (q7, .inl (k7, 8000, .inr (.inl (fun _ => 0))))] := hD
  refine lv_aload_n hx hb dX_init_80 rfl (lv_at hl 0 rfl) ?_
  refine lv_sipush (v := 8000) hx hb dX_init_81 (by decide) ?_
  refine va_newa (atype := .long) (ty := .long) (N' := 8000) (a0 := (8000, .inr (.inl (fun _ => 0)))) hx hb (hta _ w54) rfl hK hP hD hS hA (fun _ => rfl) (by decide) (by decide) (by decide) (Nat.le_of_ble_eq_true rfl) (Nat.le_of_ble_eq_true rfl) dX_init_84 (fun q8 k8 H hK hP hD hS => ?_)
  have hP : va_P (dC, dI) classes [(h0, .inr (0, [.int 0, .int 1, .int 0, .ref q1, .ref q2, .ref q3, .ref q4, .ref q5, .ref q6, .ref q7, .null])), (q1, .inl (k1, 8, .inl (fun _ => 0))), (q2, .inl (k2, 8, .inr (.inl (fun _ => 0)))), (q3, .inl (k3, 1000, .inl (fun _ => 0))), (q4, .inl (k4, 8000, .inl (fun _ => 0))), (q5, .inl (k5, 1000, .inr (.inl (fun _ => 0)))), (q6, .inl (k6, 8000, .inr (.inl (fun _ => 0)))), (q7, .inl (k7, 8000, .inr (.inl (fun _ => 0)))), (q8, .inl (k8, 8000, .inr (.inl (fun _ => 0))))] H := hP
  have hD : va_D A [(h0, .inr (0, [.int 0, .int 1, .int 0, .ref q1, .ref q2, .ref q3, .ref q4, .ref q5, .ref q6, .ref q7, .null])), (q1, .inl (k1, 8, .inl (fun _ => 0))), (q2, .inl (k2, 8, .inr (.inl (fun _ => 0)))), (q3, .inl (k3, 1000, .inl (fun _ => 0))), (q4, .inl (k4, 8000, .inl (fun _ => 0))), (q5, .inl (k5, 1000, .inr (.inl (fun _ => 0)))), (q6, .inl (k6, 8000, .inr (.inl (fun _ => 0)))), (q7, .inl (k7, 8000, .inr (.inl (fun _ => 0)))), (q8, .inl (k8, 8000, .inr (.inl (fun _ => 0))))] := hD
  have hK : va_K (dC, dI) classes [(k1, .int), (k2, .long), (k3, .int), (k4, .int), (k5, .long), (k6, .long), (k7, .long), (k8, .long)] s := hK
  refine W.cs (cells' := 8) (slots' := 34016) rfl rfl ?_
  refine va_putF (D := (dC, dI)) (ci := 0) (v := .ref q8) (ty := (.array .long)) (C := "GroupRows") (T := FX) (N := 11) hx hb hta inX tX tXok nX hown hK hP hD hS 0 rfl rfl 10 (by decide) (hta _ w29) (fun _ h9 => h9) rfl hin rfl (by decide +kernel) rfl rfl (Nat.le_of_ble_eq_true rfl) dX_init_86 (fun H locs hP hD hS => ?_)
  have hP : va_P (dC, dI) classes [(h0, .inr (0, [.int 0, .int 1, .int 0, .ref q1, .ref q2, .ref q3, .ref q4, .ref q5, .ref q6, .ref q7, .ref q8])), (q1, .inl (k1, 8, .inl (fun _ => 0))), (q2, .inl (k2, 8, .inr (.inl (fun _ => 0)))), (q3, .inl (k3, 1000, .inl (fun _ => 0))), (q4, .inl (k4, 8000, .inl (fun _ => 0))), (q5, .inl (k5, 1000, .inr (.inl (fun _ => 0)))), (q6, .inl (k6, 8000, .inr (.inl (fun _ => 0)))), (q7, .inl (k7, 8000, .inr (.inl (fun _ => 0)))), (q8, .inl (k8, 8000, .inr (.inl (fun _ => 0))))] H := hP
  have hD : va_D A [(h0, .inr (0, [.int 0, .int 1, .int 0, .ref q1, .ref q2, .ref q3, .ref q4, .ref q5, .ref q6, .ref q7, .ref q8])), (q1, .inl (k1, 8, .inl (fun _ => 0))), (q2, .inl (k2, 8, .inr (.inl (fun _ => 0)))), (q3, .inl (k3, 1000, .inl (fun _ => 0))), (q4, .inl (k4, 8000, .inl (fun _ => 0))), (q5, .inl (k5, 1000, .inr (.inl (fun _ => 0)))), (q6, .inl (k6, 8000, .inr (.inl (fun _ => 0)))), (q7, .inl (k7, 8000, .inr (.inl (fun _ => 0)))), (q8, .inl (k8, 8000, .inr (.inl (fun _ => 0))))] := hD
  refine lv_iconst (v := 0) hx hb dX_init_89 (by decide) ?_
  refine gi_as (y := nI 0) (nI_0.symm) ?_
  refine lv_istore_n (lv' := [(1, .int (nI 0)), (0, .ref h0)]) hx hb dX_init_90 rfl hl (by decide) rfl (fun ls hl => ?_)
  have loop : ∀ (kk j : Nat), j + kk = 1000 → ∀ (H : Heap) (locs : List Loc), va_P (dC, dI) classes [(h0, .inr (0, [.int 0, .int 1, .int 0, .ref q1, .ref q2, .ref q3, .ref q4, .ref q5, .ref q6, .ref q7, .ref q8])), (q1, .inl (k1, 8, .inl (fun _ => 0))), (q2, .inl (k2, 8, .inr (.inl (fun _ => 0)))), (q3, .inl (k3, 1000, .inl (upToI (fun m _ => nI m) 0 (fun _ => 0) j))), (q4, .inl (k4, 8000, .inl (fun _ => 0))), (q5, .inl (k5, 1000, .inr (.inl (fun _ => 0)))), (q6, .inl (k6, 8000, .inr (.inl (fun _ => 0)))), (q7, .inl (k7, 8000, .inr (.inl (fun _ => 0)))), (q8, .inl (k8, 8000, .inr (.inl (fun _ => 0))))] H → va_D A [(h0, .inr (0, [.int 0, .int 1, .int 0, .ref q1, .ref q2, .ref q3, .ref q4, .ref q5, .ref q6, .ref q7, .ref q8])), (q1, .inl (k1, 8, .inl (fun _ => 0))), (q2, .inl (k2, 8, .inr (.inl (fun _ => 0)))), (q3, .inl (k3, 1000, .inl (upToI (fun m _ => nI m) 0 (fun _ => 0) j))), (q4, .inl (k4, 8000, .inl (fun _ => 0))), (q5, .inl (k5, 1000, .inr (.inl (fun _ => 0)))), (q6, .inl (k6, 8000, .inr (.inl (fun _ => 0)))), (q7, .inl (k7, 8000, .inr (.inl (fun _ => 0)))), (q8, .inl (k8, 8000, .inr (.inl (fun _ => 0))))] → va_S A s.heap H locs → ∀ (ls : Array Slot), lv_has ls 2 [(1, .int (nI j)), (0, .ref h0)] → W p l e (headSpec (Cond.code yX_init bX_init 2 none :: wAll) { frames := 1, cells := 8, slots := 34016, locals := 32 }).room s m ([.ref h0] : List Value).toArray below meth c H locs 8 34016 (MQ below (va_Qv (fun _ : Unit => True) (fun (_ : Unit) (t9 : State) => ∃ (a : Nat → Nat) (k : Nat → ClassId), a 0 = h0 ∧ atX dC dI A a k 0 1 (fun _ => 0) (fun _ => 0) TB0 t9) A) ([.ref h0] : List Value).toArray s 8 34016 A) (F0 m 91 ls []) := by
    intro kk
    induction kk with
    | zero =>
      intro j hj H locs hP hD hS ls hl
      refine lv_iload_n hx hb dX_init_91 rfl (lv_at hl 0 rfl) ?_
      refine lv_sipush (v := 1000) hx hb dX_init_92 (by decide) ?_
      refine gi_as (y := nI 1000) (rfl) ?_
      refine lv_icmp_ge (tgt := 111) hx hb dX_init_95 (by decide) (fun h1 => ?_) (fun h1 => ?_)
      · skip
        have hj : 1000 = j := by omega
        subst hj
        obtain ⟨a, ea⟩ : ∃ a : Nat → Nat, a = fun n => match n with | 0 => h0 | 1 => q1 | 2 => q2 | 3 => q3 | 4 => q4 | 5 => q5 | 6 => q6 | 7 => q7 | _ => q8 := ⟨_, rfl⟩
        obtain ⟨k, ek⟩ : ∃ k : Nat → ClassId, k = fun n => match n with | 0 => k1 | 1 => k1 | 2 => k2 | 3 => k3 | 4 => k4 | 5 => k5 | 6 => k6 | 7 => k7 | _ => k8 := ⟨_, rfl⟩
        have hP : va_P (dC, dI) classes (wX a k (nI 0) (nI 1) (nI 0) (fun _ => 0) (fun _ => 0) (upToI (fun m _ => nI m) 0 (fun _ => 0) 1000) (fun _ => 0) (fun _ => 0) (fun _ => 0) (fun _ => 0) (fun _ => 0)) H := by rw [ea, ek]; exact hP
        have hD : va_D A (wX a k (nI 0) (nI 1) (nI 0) (fun _ => 0) (fun _ => 0) (upToI (fun m _ => nI m) 0 (fun _ => 0) 1000) (fun _ => 0) (fun _ => 0) (fun _ => 0) (fun _ => 0) (fun _ => 0)) := by rw [ea, ek]; exact hD
        have hK : va_K (dC, dI) classes (kX k) s := by rw [ek]; exact hK
        exact W.vret hx hb hr (fun t9 ht9 hW9 => ⟨⟨(), rfl, trivial, a, k, (congrFun ea 0).trans rfl, _, _, _, _, _, _, _, ⟨perm_id, rep_0 (by decide) (by decide) (by decide)⟩, by rw [ht9]; exact hP, va_K.moved hW9.alike hK, hD⟩, hS.F ht9⟩) hS.2.2 dX_init_111
      · skip
        exact absurd (nI_le (by omega) (by omega)) h1
    | succ kk ih =>
      intro j hj H locs hP hD hS ls hl
      refine lv_iload_n hx hb dX_init_91 rfl (lv_at hl 0 rfl) ?_
      refine lv_sipush (v := 1000) hx hb dX_init_92 (by decide) ?_
      refine gi_as (y := nI 1000) (rfl) ?_
      refine lv_icmp_ge (tgt := 111) hx hb dX_init_95 (by decide) (fun h1 => ?_) (fun h1 => ?_)
      · skip
        exact absurd h1 (nI_ge (a := j) (by omega) (by omega))
      · skip
        refine lv_aload_n hx hb dX_init_98 rfl (lv_at hl 1 rfl) ?_
        refine va_get (D := (dC, dI)) (ci := 0) (v := .ref q3) (C := "GroupRows") (T := FX) (N := 11) hx hb hta inX hown hK hP 0 rfl rfl 5 (by decide) (hta _ w24) (fun _ h9 => h9) rfl dX_init_99 ?_
        have e0 : j = 0 + j := by omega
        refine lv_iload_n hx hb dX_init_102 rfl (lv_at hl 0 rfl) ?_
        refine gi_as (y := nI (0 + j)) (by rw [← e0]) ?_
        refine lv_iload_n hx hb dX_init_103 rfl (lv_at hl 0 rfl) ?_
        refine gi_iast hx hb hK hP hD hS 3 2 rfl rfl (k := (0 + j)) (by omega) (by decide) dX_init_104 (fun H locs hP hD hS => ?_)
        refine lv_iinc (v := (nI (j + 1))) (lv' := [(1, .int (nI (j + 1))), (0, .ref h0)]) hx hb dX_init_105 hl (k := 0) rfl (nI_1 _) (by decide) rfl (fun ls hl => ?_)
        refine lv_goto (tgt := 91) hx hb dX_init_108 (by decide) ?_
        exact ih (j + 1) (by omega) H locs hP hD hS ls hl
  exact loop 1000 0 (by omega) H locs hP hD hS ls hl
end
section
set_option maxHeartbeats 4000000 in
set_option maxRecDepth 100000 in
theorem c_compared (l : Launch) (dC : Nat → ClassId) (dI : Nat → Nat → Nat) (b : Nat → Nat) (d : Nat → ClassId) (wn : Nat) (cd ms2 n2 : Int32) (ks2 : Nat → Int32) (ct2 sm2 le2 gr2 : Nat → Int64) (fk2 : Nat → Int32) (fa2 : Nat → Int64) (x y : Nat) (hwn : wn ≤ 8) (hx9 : x < 1000) (hy9 : y < 1000) : Met l yM_compared (Cond.code yM_compared bM_compared 4 (some .int) :: wAll) rm0 (va_Pc [.ref (b 0), .int (nI x), .int (nI y)] (fun U => va_P (dC, dI) classes (wM b d cd (nI wn) ms2 n2 ks2 ct2 sm2 le2 gr2 fk2 fa2) U.heap ∧ va_K (dC, dI) classes (kM d) U)) (QcV (.int (lx (fun i => ks2 (8 * x + i)) (fun i => ks2 (8 * y + i)) wn 0))) 0 0 (fun _ => False) := by
  refine Met.ofW (cc := bM_compared) (maxL := 4) (ret := (some .int)) (by decide) rfl ?_
  intro p e s m args below meth c s₁ B hml hv
  obtain ⟨rfl, hP, hK⟩ := hv
  have hx := B.exec
  have hb := B.bytes
  have hr := B.returns
  have hta : ∀ w ∈ wAll, w.before ([.ref (b 0), .int (nI x), .int (nI y)] : List Value).toArray s = true := fun w h => atoms_spec (ws := (Cond.code yM_compared bM_compared 4 (some .int) :: wAll)) B.pre w (List.mem_cons_of_mem _ h)
  have hown : s.vm.findClass "GroupRowsModel" = some m.cls := findClass_of_methodNamed B.named
  have hlocks := B.notSynchronized
  have hP : va_P (dC, dI) classes (wM b d cd (nI wn) ms2 n2 ks2 ct2 sm2 le2 gr2 fk2 fa2) s.heap := hP
  have hl := lv_entry ([.ref (b 0), .int (nI x), .int (nI y)]) (n := 4) (Nat.le_of_ble_eq_true rfl)
  rw [lg_entry_eq]
  generalize (lg_sl ([.ref (b 0), .int (nI x), .int (nI y)]) ++ List.replicate (4 - (lg_sl ([.ref (b 0), .int (nI x), .int (nI y)])).length) Slot.unset).toArray = ls at hl ⊢
  have hl : lv_has ls 4 [(0, .ref (b 0)), (1, .int (nI x)), (2, .int (nI y))] := hl
  refine lv_iconst (v := 0) hx hb dM_compared_0 (by decide) ?_
  refine gi_as (y := nI 0) (nI_0.symm) ?_
  refine lv_istore_n (lv' := [(3, .int (nI 0)), (0, .ref (b 0)), (1, .int (nI x)), (2, .int (nI y))]) hx hb dM_compared_1 rfl hl (by decide) rfl (fun ls hl => ?_)
  have loop : ∀ (kk i : Nat), i + kk = wn → lx (fun i => ks2 (8 * x + i)) (fun i => ks2 (8 * y + i)) wn 0 = lx (fun i => ks2 (8 * x + i)) (fun i => ks2 (8 * y + i)) kk i → ∀ (ls : Array Slot), lv_has ls 4 [(3, .int (nI i)), (0, .ref (b 0)), (1, .int (nI x)), (2, .int (nI y))] → W p l e (headSpec (Cond.code yM_compared bM_compared 4 (some .int) :: wAll) rm0).room s m ([.ref (b 0), .int (nI x), .int (nI y)] : List Value).toArray below meth c s.heap [] 0 0 (MQ below (QcV (.int (lx (fun i => ks2 (8 * x + i)) (fun i => ks2 (8 * y + i)) wn 0))) ([.ref (b 0), .int (nI x), .int (nI y)] : List Value).toArray s 0 0 (fun _ => False)) (F0 m 2 ls []) := by
    intro kk
    induction kk with
    | zero =>
      intro i hi hlx ls hl
      refine lv_iload_n hx hb dM_compared_2 rfl (lv_at hl 0 rfl) ?_
      refine lv_aload_n hx hb dM_compared_3 rfl (lv_at hl 1 rfl) ?_
      refine va_get (D := (dC, dI)) (ci := 1) (v := .int (nI wn)) (C := "GroupRowsModel") (T := FM) (N := 11) hx hb hta inM hown hK hP 0 rfl rfl 1 (by decide) (hta _ w281) (fun _ h9 => h9) rfl dM_compared_4 ?_
      refine lv_icmp_ge (tgt := 72) hx hb dM_compared_7 (by decide) (fun h1 => ?_) (fun h1 => ?_)
      · skip
        refine lv_iconst (v := 0) hx hb dM_compared_72 (by decide) ?_
        exact W.iret hx hb hr (fun t9 ht9 hW9 => ⟨congrArg (fun z => Outcome.returned (some (Value.int z))) (hlx.symm), ht9⟩) (fun _ h => by cases h) dM_compared_73
      · skip
        exact absurd (nI_le (by omega) (by omega)) h1
    | succ kk ih =>
      intro i hi hlx ls hl
      refine lv_iload_n hx hb dM_compared_2 rfl (lv_at hl 0 rfl) ?_
      refine lv_aload_n hx hb dM_compared_3 rfl (lv_at hl 1 rfl) ?_
      refine va_get (D := (dC, dI)) (ci := 1) (v := .int (nI wn)) (C := "GroupRowsModel") (T := FM) (N := 11) hx hb hta inM hown hK hP 0 rfl rfl 1 (by decide) (hta _ w281) (fun _ h9 => h9) rfl dM_compared_4 ?_
      refine lv_icmp_ge (tgt := 72) hx hb dM_compared_7 (by decide) (fun h1 => ?_) (fun h1 => ?_)
      · skip
        exact absurd h1 (nI_ge (a := i) (by omega) (by omega))
      · skip
        refine lv_aload_n hx hb dM_compared_10 rfl (lv_at hl 1 rfl) ?_
        refine va_get (D := (dC, dI)) (ci := 1) (v := .ref (b 1)) (C := "GroupRowsModel") (T := FM) (N := 11) hx hb hta inM hown hK hP 0 rfl rfl 4 (by decide) (hta _ w284) (fun _ h9 => h9) rfl dM_compared_11 ?_
        refine lv_bipush (v := 8) hx hb dM_compared_14 (by decide) ?_
        refine lv_iload_n hx hb dM_compared_16 rfl (lv_at hl 2 rfl) ?_
        refine lv_imul hx hb dM_compared_17 ?_
        refine gi_as (y := nI (8 * x)) (gi_8mul _) ?_
        refine lv_iload_n hx hb dM_compared_18 rfl (lv_at hl 0 rfl) ?_
        refine lv_iadd hx hb dM_compared_19 ?_
        refine gi_as (y := nI ((8 * x) + i)) (nI_add _ _) ?_
        refine gi_iald hx hb hK hP 1 0 rfl rfl (k := ((8 * x) + i)) (by omega) (by decide) dM_compared_20 ?_
        refine lv_aload_n hx hb dM_compared_21 rfl (lv_at hl 1 rfl) ?_
        refine va_get (D := (dC, dI)) (ci := 1) (v := .ref (b 1)) (C := "GroupRowsModel") (T := FM) (N := 11) hx hb hta inM hown hK hP 0 rfl rfl 4 (by decide) (hta _ w284) (fun _ h9 => h9) rfl dM_compared_22 ?_
        refine lv_bipush (v := 8) hx hb dM_compared_25 (by decide) ?_
        refine lv_iload_n hx hb dM_compared_27 rfl (lv_at hl 3 rfl) ?_
        refine lv_imul hx hb dM_compared_28 ?_
        refine gi_as (y := nI (8 * y)) (gi_8mul _) ?_
        refine lv_iload_n hx hb dM_compared_29 rfl (lv_at hl 0 rfl) ?_
        refine lv_iadd hx hb dM_compared_30 ?_
        refine gi_as (y := nI ((8 * y) + i)) (nI_add _ _) ?_
        refine gi_iald hx hb hK hP 1 0 rfl rfl (k := ((8 * y) + i)) (by omega) (by decide) dM_compared_31 ?_
        refine lv_icmp_eq (tgt := 66) hx hb dM_compared_32 (by decide) (fun h2 => ?_) (fun h2 => ?_)
        · skip
          refine lv_iinc (v := (nI (i + 1))) (lv' := [(3, .int (nI (i + 1))), (0, .ref (b 0)), (1, .int (nI x)), (2, .int (nI y))]) hx hb dM_compared_66 hl (k := 0) rfl (nI_1 _) (by decide) rfl (fun ls hl => ?_)
          refine lv_goto (tgt := 2) hx hb dM_compared_69 (by decide) ?_
          have hl := lv_sub hl [0, 1, 2, 3] rfl
          have hl : lv_has ls 4 [(3, .int (nI (i + 1))), (0, .ref (b 0)), (1, .int (nI x)), (2, .int (nI y))] := hl
          exact ih (i + 1) (by omega) (hlx.trans (by simp only [lx, h2, if_true, if_neg (i32_lt_irr _)])) ls hl
        · skip
          refine lv_aload_n hx hb dM_compared_35 rfl (lv_at hl 1 rfl) ?_
          refine va_get (D := (dC, dI)) (ci := 1) (v := .ref (b 1)) (C := "GroupRowsModel") (T := FM) (N := 11) hx hb hta inM hown hK hP 0 rfl rfl 4 (by decide) (hta _ w284) (fun _ h9 => h9) rfl dM_compared_36 ?_
          refine lv_bipush (v := 8) hx hb dM_compared_39 (by decide) ?_
          refine lv_iload_n hx hb dM_compared_41 rfl (lv_at hl 2 rfl) ?_
          refine lv_imul hx hb dM_compared_42 ?_
          refine gi_as (y := nI (8 * x)) (gi_8mul _) ?_
          refine lv_iload_n hx hb dM_compared_43 rfl (lv_at hl 0 rfl) ?_
          refine lv_iadd hx hb dM_compared_44 ?_
          refine gi_as (y := nI ((8 * x) + i)) (nI_add _ _) ?_
          refine gi_iald hx hb hK hP 1 0 rfl rfl (k := ((8 * x) + i)) (by omega) (by decide) dM_compared_45 ?_
          refine lv_aload_n hx hb dM_compared_46 rfl (lv_at hl 1 rfl) ?_
          refine va_get (D := (dC, dI)) (ci := 1) (v := .ref (b 1)) (C := "GroupRowsModel") (T := FM) (N := 11) hx hb hta inM hown hK hP 0 rfl rfl 4 (by decide) (hta _ w284) (fun _ h9 => h9) rfl dM_compared_47 ?_
          refine lv_bipush (v := 8) hx hb dM_compared_50 (by decide) ?_
          refine lv_iload_n hx hb dM_compared_52 rfl (lv_at hl 3 rfl) ?_
          refine lv_imul hx hb dM_compared_53 ?_
          refine gi_as (y := nI (8 * y)) (gi_8mul _) ?_
          refine lv_iload_n hx hb dM_compared_54 rfl (lv_at hl 0 rfl) ?_
          refine lv_iadd hx hb dM_compared_55 ?_
          refine gi_as (y := nI ((8 * y) + i)) (nI_add _ _) ?_
          refine gi_iald hx hb hK hP 1 0 rfl rfl (k := ((8 * y) + i)) (by omega) (by decide) dM_compared_56 ?_
          refine lv_icmp_ge (tgt := 64) hx hb dM_compared_57 (by decide) (fun h3 => ?_) (fun h3 => ?_)
          · skip
            refine lv_iconst (v := 1) hx hb dM_compared_64 (by decide) ?_
            exact W.iret hx hb hr (fun t9 ht9 hW9 => ⟨congrArg (fun z => Outcome.returned (some (Value.int z))) (by rw [hlx]; simp only [lx]; rw [if_neg (Int32.not_lt.mpr h3), if_neg h2]), ht9⟩) (fun _ h => by cases h) dM_compared_65
          · skip
            refine lv_iconst (v := (-1)) hx hb dM_compared_60 (by decide) ?_
            refine lv_goto (tgt := 65) hx hb dM_compared_61 (by decide) ?_
            exact W.iret hx hb hr (fun t9 ht9 hW9 => ⟨congrArg (fun z => Outcome.returned (some (Value.int z))) (by rw [hlx]; simp only [lx]; rw [if_pos (Int32.not_le.mp h3)]), ht9⟩) (fun _ h => by cases h) dM_compared_65
  have hl := lv_sub hl [0, 1, 2, 3] rfl
  have hl : lv_has ls 4 [(3, .int (nI 0)), (0, .ref (b 0)), (1, .int (nI x)), (2, .int (nI y))] := hl
  exact loop wn 0 (by omega) rfl ls hl
set_option maxHeartbeats 4000000 in
set_option maxRecDepth 100000 in
theorem c_against (l : Launch) (dC : Nat → ClassId) (dI : Nat → Nat → Nat) (b : Nat → Nat) (d : Nat → ClassId) (wn : Nat) (cd ms2 n2 : Int32) (ks2 : Nat → Int32) (ct2 sm2 le2 gr2 : Nat → Int64) (fk2 : Nat → Int32) (fa2 : Nat → Int64) (x : Nat) (hwn : wn ≤ 8) (hx9 : x < 1000) : Met l yM_against (Cond.code yM_against bM_against 3 (some .int) :: wAll) rm0 (va_Pc [.ref (b 0), .int (nI x)] (fun U => va_P (dC, dI) classes (wM b d cd (nI wn) ms2 n2 ks2 ct2 sm2 le2 gr2 fk2 fa2) U.heap ∧ va_K (dC, dI) classes (kM d) U)) (QcV (.int (lx fk2 (fun i => ks2 (8 * x + i)) wn 0))) 0 0 (fun _ => False) := by
  refine Met.ofW (cc := bM_against) (maxL := 3) (ret := (some .int)) (by decide) rfl ?_
  intro p e s m args below meth c s₁ B hml hv
  obtain ⟨rfl, hP, hK⟩ := hv
  have hx := B.exec
  have hb := B.bytes
  have hr := B.returns
  have hta : ∀ w ∈ wAll, w.before ([.ref (b 0), .int (nI x)] : List Value).toArray s = true := fun w h => atoms_spec (ws := (Cond.code yM_against bM_against 3 (some .int) :: wAll)) B.pre w (List.mem_cons_of_mem _ h)
  have hown : s.vm.findClass "GroupRowsModel" = some m.cls := findClass_of_methodNamed B.named
  have hlocks := B.notSynchronized
  have hP : va_P (dC, dI) classes (wM b d cd (nI wn) ms2 n2 ks2 ct2 sm2 le2 gr2 fk2 fa2) s.heap := hP
  have hl := lv_entry ([.ref (b 0), .int (nI x)]) (n := 3) (Nat.le_of_ble_eq_true rfl)
  rw [lg_entry_eq]
  generalize (lg_sl ([.ref (b 0), .int (nI x)]) ++ List.replicate (3 - (lg_sl ([.ref (b 0), .int (nI x)])).length) Slot.unset).toArray = ls at hl ⊢
  have hl : lv_has ls 3 [(0, .ref (b 0)), (1, .int (nI x))] := hl
  refine lv_iconst (v := 0) hx hb dM_against_0 (by decide) ?_
  refine gi_as (y := nI 0) (nI_0.symm) ?_
  refine lv_istore_n (lv' := [(2, .int (nI 0)), (0, .ref (b 0)), (1, .int (nI x))]) hx hb dM_against_1 rfl hl (by decide) rfl (fun ls hl => ?_)
  have loop : ∀ (kk i : Nat), i + kk = wn → lx fk2 (fun i => ks2 (8 * x + i)) wn 0 = lx fk2 (fun i => ks2 (8 * x + i)) kk i → ∀ (ls : Array Slot), lv_has ls 3 [(2, .int (nI i)), (0, .ref (b 0)), (1, .int (nI x))] → W p l e (headSpec (Cond.code yM_against bM_against 3 (some .int) :: wAll) rm0).room s m ([.ref (b 0), .int (nI x)] : List Value).toArray below meth c s.heap [] 0 0 (MQ below (QcV (.int (lx fk2 (fun i => ks2 (8 * x + i)) wn 0))) ([.ref (b 0), .int (nI x)] : List Value).toArray s 0 0 (fun _ => False)) (F0 m 2 ls []) := by
    intro kk
    induction kk with
    | zero =>
      intro i hi hlx ls hl
      refine lv_iload_n hx hb dM_against_2 rfl (lv_at hl 0 rfl) ?_
      refine lv_aload_n hx hb dM_against_3 rfl (lv_at hl 1 rfl) ?_
      refine va_get (D := (dC, dI)) (ci := 1) (v := .int (nI wn)) (C := "GroupRowsModel") (T := FM) (N := 11) hx hb hta inM hown hK hP 0 rfl rfl 1 (by decide) (hta _ w281) (fun _ h9 => h9) rfl dM_against_4 ?_
      refine lv_icmp_ge (tgt := 62) hx hb dM_against_7 (by decide) (fun h1 => ?_) (fun h1 => ?_)
      · skip
        refine lv_iconst (v := 0) hx hb dM_against_62 (by decide) ?_
        exact W.iret hx hb hr (fun t9 ht9 hW9 => ⟨congrArg (fun z => Outcome.returned (some (Value.int z))) (hlx.symm), ht9⟩) (fun _ h => by cases h) dM_against_63
      · skip
        exact absurd (nI_le (by omega) (by omega)) h1
    | succ kk ih =>
      intro i hi hlx ls hl
      refine lv_iload_n hx hb dM_against_2 rfl (lv_at hl 0 rfl) ?_
      refine lv_aload_n hx hb dM_against_3 rfl (lv_at hl 1 rfl) ?_
      refine va_get (D := (dC, dI)) (ci := 1) (v := .int (nI wn)) (C := "GroupRowsModel") (T := FM) (N := 11) hx hb hta inM hown hK hP 0 rfl rfl 1 (by decide) (hta _ w281) (fun _ h9 => h9) rfl dM_against_4 ?_
      refine lv_icmp_ge (tgt := 62) hx hb dM_against_7 (by decide) (fun h1 => ?_) (fun h1 => ?_)
      · skip
        exact absurd h1 (nI_ge (a := i) (by omega) (by omega))
      · skip
        refine lv_aload_n hx hb dM_against_10 rfl (lv_at hl 1 rfl) ?_
        refine va_get (D := (dC, dI)) (ci := 1) (v := .ref (b 6)) (C := "GroupRowsModel") (T := FM) (N := 11) hx hb hta inM hown hK hP 0 rfl rfl 9 (by decide) (hta _ w289) (fun _ h9 => h9) rfl dM_against_11 ?_
        refine lv_iload_n hx hb dM_against_14 rfl (lv_at hl 0 rfl) ?_
        refine gi_iald hx hb hK hP 6 5 rfl rfl (k := i) (by omega) (by decide) dM_against_15 ?_
        refine lv_aload_n hx hb dM_against_16 rfl (lv_at hl 1 rfl) ?_
        refine va_get (D := (dC, dI)) (ci := 1) (v := .ref (b 1)) (C := "GroupRowsModel") (T := FM) (N := 11) hx hb hta inM hown hK hP 0 rfl rfl 4 (by decide) (hta _ w284) (fun _ h9 => h9) rfl dM_against_17 ?_
        refine lv_bipush (v := 8) hx hb dM_against_20 (by decide) ?_
        refine lv_iload_n hx hb dM_against_22 rfl (lv_at hl 2 rfl) ?_
        refine lv_imul hx hb dM_against_23 ?_
        refine gi_as (y := nI (8 * x)) (gi_8mul _) ?_
        refine lv_iload_n hx hb dM_against_24 rfl (lv_at hl 0 rfl) ?_
        refine lv_iadd hx hb dM_against_25 ?_
        refine gi_as (y := nI ((8 * x) + i)) (nI_add _ _) ?_
        refine gi_iald hx hb hK hP 1 0 rfl rfl (k := ((8 * x) + i)) (by omega) (by decide) dM_against_26 ?_
        refine lv_icmp_eq (tgt := 56) hx hb dM_against_27 (by decide) (fun h2 => ?_) (fun h2 => ?_)
        · skip
          refine lv_iinc (v := (nI (i + 1))) (lv' := [(2, .int (nI (i + 1))), (0, .ref (b 0)), (1, .int (nI x))]) hx hb dM_against_56 hl (k := 0) rfl (nI_1 _) (by decide) rfl (fun ls hl => ?_)
          refine lv_goto (tgt := 2) hx hb dM_against_59 (by decide) ?_
          have hl := lv_sub hl [0, 1, 2] rfl
          have hl : lv_has ls 3 [(2, .int (nI (i + 1))), (0, .ref (b 0)), (1, .int (nI x))] := hl
          exact ih (i + 1) (by omega) (hlx.trans (by simp only [lx, h2, if_true, if_neg (i32_lt_irr _)])) ls hl
        · skip
          refine lv_aload_n hx hb dM_against_30 rfl (lv_at hl 1 rfl) ?_
          refine va_get (D := (dC, dI)) (ci := 1) (v := .ref (b 6)) (C := "GroupRowsModel") (T := FM) (N := 11) hx hb hta inM hown hK hP 0 rfl rfl 9 (by decide) (hta _ w289) (fun _ h9 => h9) rfl dM_against_31 ?_
          refine lv_iload_n hx hb dM_against_34 rfl (lv_at hl 0 rfl) ?_
          refine gi_iald hx hb hK hP 6 5 rfl rfl (k := i) (by omega) (by decide) dM_against_35 ?_
          refine lv_aload_n hx hb dM_against_36 rfl (lv_at hl 1 rfl) ?_
          refine va_get (D := (dC, dI)) (ci := 1) (v := .ref (b 1)) (C := "GroupRowsModel") (T := FM) (N := 11) hx hb hta inM hown hK hP 0 rfl rfl 4 (by decide) (hta _ w284) (fun _ h9 => h9) rfl dM_against_37 ?_
          refine lv_bipush (v := 8) hx hb dM_against_40 (by decide) ?_
          refine lv_iload_n hx hb dM_against_42 rfl (lv_at hl 2 rfl) ?_
          refine lv_imul hx hb dM_against_43 ?_
          refine gi_as (y := nI (8 * x)) (gi_8mul _) ?_
          refine lv_iload_n hx hb dM_against_44 rfl (lv_at hl 0 rfl) ?_
          refine lv_iadd hx hb dM_against_45 ?_
          refine gi_as (y := nI ((8 * x) + i)) (nI_add _ _) ?_
          refine gi_iald hx hb hK hP 1 0 rfl rfl (k := ((8 * x) + i)) (by omega) (by decide) dM_against_46 ?_
          refine lv_icmp_ge (tgt := 54) hx hb dM_against_47 (by decide) (fun h3 => ?_) (fun h3 => ?_)
          · skip
            refine lv_iconst (v := 1) hx hb dM_against_54 (by decide) ?_
            exact W.iret hx hb hr (fun t9 ht9 hW9 => ⟨congrArg (fun z => Outcome.returned (some (Value.int z))) (by rw [hlx]; simp only [lx]; rw [if_neg (Int32.not_lt.mpr h3), if_neg h2]), ht9⟩) (fun _ h => by cases h) dM_against_55
          · skip
            refine lv_iconst (v := (-1)) hx hb dM_against_50 (by decide) ?_
            refine lv_goto (tgt := 55) hx hb dM_against_51 (by decide) ?_
            exact W.iret hx hb hr (fun t9 ht9 hW9 => ⟨congrArg (fun z => Outcome.returned (some (Value.int z))) (by rw [hlx]; simp only [lx]; rw [if_pos (Int32.not_le.mp h3)]), ht9⟩) (fun _ h => by cases h) dM_against_55
  have hl := lv_sub hl [0, 1, 2] rfl
  have hl : lv_has ls 3 [(2, .int (nI 0)), (0, .ref (b 0)), (1, .int (nI x))] := hl
  exact loop wn 0 (by omega) rfl ls hl
set_option maxHeartbeats 4000000 in
set_option maxRecDepth 100000 in
theorem c_before (l : Launch) (dC : Nat → ClassId) (dI : Nat → Nat → Nat) (b : Nat → Nat) (d : Nat → ClassId) (wn nn : Nat) (cd ms2 : Int32) (ks2 : Nat → Int32) (ct2 sm2 le2 gr2 : Nat → Int64) (fk2 : Nat → Int32) (fa2 : Nat → Int64) (ps : Nat) (hwn : wn ≤ 8) (hnn : nn ≤ 1000) (hlow : isLow wn nn (fun j i => ks2 (8 * j + i)) fk2 ps) : Met l yM_before (Cond.code yM_before bM_before 2 (some .int) :: wAll) { frames := 1, cells := 0, slots := 0, locals := 64 } (va_Pc [.ref (b 0)] (fun U => va_P (dC, dI) classes (wM b d cd (nI wn) ms2 (nI nn) ks2 ct2 sm2 le2 gr2 fk2 fa2) U.heap ∧ va_K (dC, dI) classes (kM d) U)) (QcV (.int (nI ps))) 0 0 (fun _ => False) := by
  refine Met.ofW (cc := bM_before) (maxL := 2) (ret := (some .int)) (by decide) rfl ?_
  intro p e s m args below meth c s₁ B hml hv
  obtain ⟨rfl, hP, hK⟩ := hv
  have hx := B.exec
  have hb := B.bytes
  have hr := B.returns
  have hta : ∀ w ∈ wAll, w.before ([.ref (b 0)] : List Value).toArray s = true := fun w h => atoms_spec (ws := (Cond.code yM_before bM_before 2 (some .int) :: wAll)) B.pre w (List.mem_cons_of_mem _ h)
  have hown : s.vm.findClass "GroupRowsModel" = some m.cls := findClass_of_methodNamed B.named
  have hlocks := B.notSynchronized
  have hP : va_P (dC, dI) classes (wM b d cd (nI wn) ms2 (nI nn) ks2 ct2 sm2 le2 gr2 fk2 fa2) s.heap := hP
  have hl := lv_entry ([.ref (b 0)]) (n := 2) (Nat.le_of_ble_eq_true rfl)
  rw [lg_entry_eq]
  generalize (lg_sl ([.ref (b 0)]) ++ List.replicate (2 - (lg_sl ([.ref (b 0)])).length) Slot.unset).toArray = ls at hl ⊢
  have hl : lv_has ls 2 [(0, .ref (b 0))] := hl
  have hps := hlow.1
  refine lv_iconst (v := 0) hx hb dM_before_0 (by decide) ?_
  refine gi_as (y := nI 0) (nI_0.symm) ?_
  refine lv_istore_n (lv' := [(1, .int (nI 0)), (0, .ref (b 0))]) hx hb dM_before_1 rfl hl (by decide) rfl (fun ls hl => ?_)
  have loop : ∀ (kk q : Nat), q + kk = ps → ∀ (ls : Array Slot), lv_has ls 2 [(1, .int (nI q)), (0, .ref (b 0))] → W p l e (headSpec (Cond.code yM_before bM_before 2 (some .int) :: wAll) { frames := 1, cells := 0, slots := 0, locals := 64 }).room s m ([.ref (b 0)] : List Value).toArray below meth c s.heap [] 0 0 (MQ below (QcV (.int (nI ps))) ([.ref (b 0)] : List Value).toArray s 0 0 (fun _ => False)) (F0 m 2 ls []) := by
    intro kk
    induction kk with
    | zero =>
      intro q hq ls hl
      refine lv_iload_n hx hb dM_before_2 rfl (lv_at hl 0 rfl) ?_
      refine lv_aload_n hx hb dM_before_3 rfl (lv_at hl 1 rfl) ?_
      refine va_get (D := (dC, dI)) (ci := 1) (v := .int (nI nn)) (C := "GroupRowsModel") (T := FM) (N := 11) hx hb hta inM hown hK hP 0 rfl rfl 3 (by decide) (hta _ w283) (fun _ h9 => h9) rfl dM_before_4 ?_
      refine lv_icmp_ge (tgt := 24) hx hb dM_before_7 (by decide) (fun h1 => ?_) (fun h1 => ?_)
      · skip
        refine lv_iload_n hx hb dM_before_24 rfl (lv_at hl 0 rfl) ?_
        exact W.iret hx hb hr (fun t9 ht9 hW9 => ⟨congrArg (fun z => Outcome.returned (some (Value.int z))) (by rw [show ps = q by omega]), ht9⟩) (fun _ h => by cases h) dM_before_25
      · skip
        have h1 : q < nn := by
          rcases Nat.lt_or_ge q nn with z | z
          · exact z
          · exact absurd (nI_le z (by omega)) h1
        refine lv_aload_n hx hb dM_before_10 rfl (lv_at hl 1 rfl) ?_
        refine lv_iload_n hx hb dM_before_11 rfl (lv_at hl 0 rfl) ?_
        refine gi_callR (v := .int (lx fk2 (fun i => ks2 (8 * q + i)) wn 0)) (W.runV (As := [.int (nI q)]) (rest := []) ⟨hx, hb, hml, hown, hta⟩ (c_against l dC dI b d wn cd ms2 (nI nn) ks2 ct2 sm2 le2 gr2 fk2 fa2 q hwn (by omega)) (cwV 1 hta (gV w343 w345 sM_against w2 w346) rfl rfl rfl (by decide +kernel) ⟨Nat.le_of_ble_eq_true rfl, Nat.le_of_ble_eq_true rfl⟩) ⟨gb_R, va_recv hK hP (ci := 1) (q0 := 0) rfl rfl, fun U hU hW => ⟨rfl, by rw [hU]; exact hP, va_K.moved hW.alike hK⟩⟩ rfl rfl hl.1 rfl (lv_room (Nat.le_of_ble_eq_true rfl)) dM_before_12 ⟨Nat.le_of_ble_eq_true rfl, Nat.le_of_ble_eq_true rfl⟩) ?_
        refine lv_if_le (tgt := 24) hx hb dM_before_15 (by decide) (fun h2 => ?_) (fun h2 => ?_)
        · skip
          refine lv_iload_n hx hb dM_before_24 rfl (lv_at hl 0 rfl) ?_
          exact W.iret hx hb hr (fun t9 ht9 hW9 => ⟨congrArg (fun z => Outcome.returned (some (Value.int z))) (by rw [show ps = q by omega]), ht9⟩) (fun _ h => by cases h) dM_before_25
        · skip
          exact absurd (lx_gt.mp (Int32.not_le.mp h2)) (hlow.2.2 q (by omega) h1)
    | succ kk ih =>
      intro q hq ls hl
      refine lv_iload_n hx hb dM_before_2 rfl (lv_at hl 0 rfl) ?_
      refine lv_aload_n hx hb dM_before_3 rfl (lv_at hl 1 rfl) ?_
      refine va_get (D := (dC, dI)) (ci := 1) (v := .int (nI nn)) (C := "GroupRowsModel") (T := FM) (N := 11) hx hb hta inM hown hK hP 0 rfl rfl 3 (by decide) (hta _ w283) (fun _ h9 => h9) rfl dM_before_4 ?_
      refine lv_icmp_ge (tgt := 24) hx hb dM_before_7 (by decide) (fun h1 => ?_) (fun h1 => ?_)
      · skip
        exact absurd ((nI_leI (by omega) (by omega)).mp h1) (by omega)
      · skip
        refine lv_aload_n hx hb dM_before_10 rfl (lv_at hl 1 rfl) ?_
        refine lv_iload_n hx hb dM_before_11 rfl (lv_at hl 0 rfl) ?_
        refine gi_callR (v := .int (lx fk2 (fun i => ks2 (8 * q + i)) wn 0)) (W.runV (As := [.int (nI q)]) (rest := []) ⟨hx, hb, hml, hown, hta⟩ (c_against l dC dI b d wn cd ms2 (nI nn) ks2 ct2 sm2 le2 gr2 fk2 fa2 q hwn (by omega)) (cwV 1 hta (gV w343 w345 sM_against w2 w346) rfl rfl rfl (by decide +kernel) ⟨Nat.le_of_ble_eq_true rfl, Nat.le_of_ble_eq_true rfl⟩) ⟨gb_R, va_recv hK hP (ci := 1) (q0 := 0) rfl rfl, fun U hU hW => ⟨rfl, by rw [hU]; exact hP, va_K.moved hW.alike hK⟩⟩ rfl rfl hl.1 rfl (lv_room (Nat.le_of_ble_eq_true rfl)) dM_before_12 ⟨Nat.le_of_ble_eq_true rfl, Nat.le_of_ble_eq_true rfl⟩) ?_
        refine lv_if_le (tgt := 24) hx hb dM_before_15 (by decide) (fun h2 => ?_) (fun h2 => ?_)
        · skip
          exact absurd (lx_gt.mpr (hlow.2.1 q (by omega))) (Int32.not_lt.mpr h2)
        · skip
          refine lv_iinc (v := (nI (q + 1))) (lv' := [(1, .int (nI (q + 1))), (0, .ref (b 0))]) hx hb dM_before_18 hl (k := 0) rfl (nI_1 _) (by decide) rfl (fun ls hl => ?_)
          refine lv_goto (tgt := 2) hx hb dM_before_21 (by decide) ?_
          have hl := lv_sub hl [0, 1] rfl
          have hl : lv_has ls 2 [(1, .int (nI (q + 1))), (0, .ref (b 0))] := hl
          exact ih (q + 1) (by omega) ls hl
  have hl := lv_sub hl [0, 1] rfl
  have hl : lv_has ls 2 [(1, .int (nI 0)), (0, .ref (b 0))] := hl
  exact loop ps 0 (by omega) ls hl
set_option maxHeartbeats 4000000 in
set_option maxRecDepth 100000 in
theorem c_isRow (l : Launch) (dC : Nat → ClassId) (dI : Nat → Nat → Nat) (b : Nat → Nat) (d : Nat → ClassId) (cd w2 ms2 n2 : Int32) (ks2 : Nat → Int32) (ct2 sm2 le2 gr2 : Nat → Int64) (fk2 : Nat → Int32) (fa2 : Nat → Int64) (i : Int32) : Met l yM_isRow (Cond.code yM_isRow bM_isRow 2 (some .boolean) :: wAll) rm0 (va_Pc [.ref (b 0), .int i] (fun U => va_P (dC, dI) classes (wM b d cd w2 ms2 n2 ks2 ct2 sm2 le2 gr2 fk2 fa2) U.heap ∧ va_K (dC, dI) classes (kM d) U)) (QcV (.int (if 0 ≤ i ∧ i < n2 then 1 else 0))) 0 0 (fun _ => False) := by
  refine Met.ofW (cc := bM_isRow) (maxL := 2) (ret := (some .boolean)) (by decide) rfl ?_
  intro p e s m args below meth c s₁ B hml hv
  obtain ⟨rfl, hP, hK⟩ := hv
  have hx := B.exec
  have hb := B.bytes
  have hr := B.returns
  have hta : ∀ w ∈ wAll, w.before ([.ref (b 0), .int i] : List Value).toArray s = true := fun w h => atoms_spec (ws := (Cond.code yM_isRow bM_isRow 2 (some .boolean) :: wAll)) B.pre w (List.mem_cons_of_mem _ h)
  have hown : s.vm.findClass "GroupRowsModel" = some m.cls := findClass_of_methodNamed B.named
  have hlocks := B.notSynchronized
  have hP : va_P (dC, dI) classes (wM b d cd w2 ms2 n2 ks2 ct2 sm2 le2 gr2 fk2 fa2) s.heap := hP
  have hl := lv_entry ([.ref (b 0), .int i]) (n := 2) (Nat.le_of_ble_eq_true rfl)
  rw [lg_entry_eq]
  generalize (lg_sl ([.ref (b 0), .int i]) ++ List.replicate (2 - (lg_sl ([.ref (b 0), .int i])).length) Slot.unset).toArray = ls at hl ⊢
  have hl : lv_has ls 2 [(0, .ref (b 0)), (1, .int i)] := hl
  refine lv_iload_n hx hb dM_isRow_0 rfl (lv_at hl 1 rfl) ?_
  refine lv_if_lt (tgt := 16) hx hb dM_isRow_1 (by decide) (fun h1 => ?_) (fun h1 => ?_)
  · skip
    refine lv_iconst (v := 0) hx hb dM_isRow_16 (by decide) ?_
    exact W.zret hx hb hr (rfl) (fun t9 ht9 hW9 => ⟨congrArg (fun z => Outcome.returned (some (Value.int z))) ((if_neg (fun q => absurd q.1 (Int32.not_le.mpr h1))).symm), ht9⟩) (fun _ h => by cases h) dM_isRow_17
  · skip
    refine lv_iload_n hx hb dM_isRow_4 rfl (lv_at hl 1 rfl) ?_
    refine lv_aload_n hx hb dM_isRow_5 rfl (lv_at hl 0 rfl) ?_
    refine va_get (D := (dC, dI)) (ci := 1) (v := .int n2) (C := "GroupRowsModel") (T := FM) (N := 11) hx hb hta inM hown hK hP 0 rfl rfl 3 (by decide) (hta _ w283) (fun _ h9 => h9) rfl dM_isRow_6 ?_
    refine lv_icmp_ge (tgt := 16) hx hb dM_isRow_9 (by decide) (fun h2 => ?_) (fun h2 => ?_)
    · skip
      refine lv_iconst (v := 0) hx hb dM_isRow_16 (by decide) ?_
      exact W.zret hx hb hr (rfl) (fun t9 ht9 hW9 => ⟨congrArg (fun z => Outcome.returned (some (Value.int z))) ((if_neg (fun q => absurd q.2 (Int32.not_lt.mpr h2))).symm), ht9⟩) (fun _ h => by cases h) dM_isRow_17
    · skip
      refine lv_iconst (v := 1) hx hb dM_isRow_12 (by decide) ?_
      refine lv_goto (tgt := 17) hx hb dM_isRow_13 (by decide) ?_
      exact W.zret hx hb hr (rfl) (fun t9 ht9 hW9 => ⟨congrArg (fun z => Outcome.returned (some (Value.int z))) ((if_pos ⟨Int32.not_lt.mp h1, Int32.not_le.mp h2⟩).symm), ht9⟩) (fun _ h => by cases h) dM_isRow_17
set_option maxHeartbeats 4000000 in
set_option maxRecDepth 100000 in
theorem c_thrown (l : Launch) (dC : Nat → ClassId) (dI : Nat → Nat → Nat) (b : Nat → Nat) (d : Nat → ClassId) (cd w2 ms2 n2 : Int32) (ks2 : Nat → Int32) (ct2 sm2 le2 gr2 : Nat → Int64) (fk2 : Nat → Int32) (fa2 : Nat → Int64) : Met l yM_thrown (Cond.code yM_thrown bM_thrown 1 (some .int) :: wAll) rm0 (va_Pc [.ref (b 0)] (fun U => va_P (dC, dI) classes (wM b d cd w2 ms2 n2 ks2 ct2 sm2 le2 gr2 fk2 fa2) U.heap ∧ va_K (dC, dI) classes (kM d) U)) (QcV (.int cd)) 0 0 (fun _ => False) := by
  refine Met.ofW (cc := bM_thrown) (maxL := 1) (ret := (some .int)) (by decide) rfl ?_
  intro p e s m args below meth c s₁ B hml hv
  obtain ⟨rfl, hP, hK⟩ := hv
  have hx := B.exec
  have hb := B.bytes
  have hr := B.returns
  have hta : ∀ w ∈ wAll, w.before ([.ref (b 0)] : List Value).toArray s = true := fun w h => atoms_spec (ws := (Cond.code yM_thrown bM_thrown 1 (some .int) :: wAll)) B.pre w (List.mem_cons_of_mem _ h)
  have hown : s.vm.findClass "GroupRowsModel" = some m.cls := findClass_of_methodNamed B.named
  have hlocks := B.notSynchronized
  have hP : va_P (dC, dI) classes (wM b d cd w2 ms2 n2 ks2 ct2 sm2 le2 gr2 fk2 fa2) s.heap := hP
  have hl := lv_entry ([.ref (b 0)]) (n := 1) (Nat.le_of_ble_eq_true rfl)
  rw [lg_entry_eq]
  generalize (lg_sl ([.ref (b 0)]) ++ List.replicate (1 - (lg_sl ([.ref (b 0)])).length) Slot.unset).toArray = ls at hl ⊢
  have hl : lv_has ls 1 [(0, .ref (b 0))] := hl
  refine lv_aload_n hx hb dM_thrown_0 rfl (lv_at hl 0 rfl) ?_
  refine va_get (D := (dC, dI)) (ci := 1) (v := .int cd) (C := "GroupRowsModel") (T := FM) (N := 11) hx hb hta inM hown hK hP 0 rfl rfl 0 (by decide) (hta _ w280) (fun _ h9 => h9) rfl dM_thrown_1 ?_
  exact W.iret hx hb hr (fun t9 ht9 hW9 => ⟨congrArg (fun z => Outcome.returned (some (Value.int z))) (rfl), ht9⟩) (fun _ h => by cases h) dM_thrown_4
set_option maxHeartbeats 4000000 in
set_option maxRecDepth 100000 in
/-- copy -/
theorem c_copy (l : Launch) (dC : Nat → ClassId) (dI : Nat → Nat → Nat) (b : Nat → Nat) (d : Nat → ClassId) (cd w2 ms2 n2 : Int32) (ks2 : Nat → Int32) (ct2 sm2 le2 gr2 : Nat → Int64) (fk2 : Nat → Int32) (fa2 : Nat → Int64) (x y : Nat) (hx9 : x < 1000) (hy9 : y < 1000) (sz : Nat)  : Met l yM_copy (Cond.code yM_copy bM_copy 4 none :: wAll) rm0 (va_Pc [.ref (b 0), .int (nI x), .int (nI y)] (fun U => U.heap.size = sz ∧ va_P (dC, dI) classes (wM b d cd w2 ms2 n2 ks2 ct2 sm2 le2 gr2 fk2 fa2) U.heap ∧ va_K (dC, dI) classes (kM d) U ∧ va_D (fun _ => True) (wM b d cd w2 ms2 n2 ks2 ct2 sm2 le2 gr2 fk2 fa2))) (va_Qv (fun _ : Unit => True) (fun (_ : Unit) (t9 : State) => va_P (dC, dI) classes (wM b d cd w2 ms2 n2 (upToI (fun m _ => ks2 (8 * x + m)) (8 * y) ks2 8) (vp_updL ct2 y (ct2 x)) (upTo (fun m _ => sm2 (8 * x + m)) (8 * y) sm2 8) (upTo (fun m _ => le2 (8 * x + m)) (8 * y) le2 8) (upTo (fun m _ => gr2 (8 * x + m)) (8 * y) gr2 8) fk2 fa2) t9.heap ∧ va_K (dC, dI) classes (kM d) t9 ∧ va_D (va_A (wM b d cd w2 ms2 n2 ks2 ct2 sm2 le2 gr2 fk2 fa2) sz) (wM b d cd w2 ms2 n2 (upToI (fun m _ => ks2 (8 * x + m)) (8 * y) ks2 8) (vp_updL ct2 y (ct2 x)) (upTo (fun m _ => sm2 (8 * x + m)) (8 * y) sm2 8) (upTo (fun m _ => le2 (8 * x + m)) (8 * y) le2 8) (upTo (fun m _ => gr2 (8 * x + m)) (8 * y) gr2 8) fk2 fa2)) (va_A (wM b d cd w2 ms2 n2 ks2 ct2 sm2 le2 gr2 fk2 fa2) sz)) 0 0 (va_A (wM b d cd w2 ms2 n2 ks2 ct2 sm2 le2 gr2 fk2 fa2) sz) := by
  refine Met.ofW (cc := bM_copy) (maxL := 4) (ret := none) (by decide) rfl ?_
  intro p e s m args below meth c s₁ B hml hv
  obtain ⟨rfl, hsz, hP, hK, hD0⟩ := hv
  have hx := B.exec
  have hb := B.bytes
  have hr := B.returns
  have hta : ∀ w ∈ wAll, w.before ([.ref (b 0), .int (nI x), .int (nI y)] : List Value).toArray s = true := fun w h => atoms_spec (ws := (Cond.code yM_copy bM_copy 4 none :: wAll)) B.pre w (List.mem_cons_of_mem _ h)
  have hown : s.vm.findClass "GroupRowsModel" = some m.cls := findClass_of_methodNamed B.named
  have hlocks := B.notSynchronized
  subst hsz
  have hD := hD0.self (sz := s.heap.size)
  generalize hAe : va_A (wM b d cd w2 ms2 n2 ks2 ct2 sm2 le2 gr2 fk2 fa2) s.heap.size = A at hD ⊢
  have hA : ∀ q : Nat, s.heap.size ≤ q → A q := fun q h => by rw [← hAe]; exact Or.inr h
  have hS : va_S A s.heap s.heap [] := va_S.rf
  have hP : va_P (dC, dI) classes (wM b d cd w2 ms2 n2 ks2 ct2 sm2 le2 gr2 fk2 fa2) s.heap := hP
  have hl := lv_entry ([.ref (b 0), .int (nI x), .int (nI y)]) (n := 4) (Nat.le_of_ble_eq_true rfl)
  rw [lg_entry_eq]
  generalize (lg_sl ([.ref (b 0), .int (nI x), .int (nI y)]) ++ List.replicate (4 - (lg_sl ([.ref (b 0), .int (nI x), .int (nI y)])).length) Slot.unset).toArray = ls at hl ⊢
  have hl : lv_has ls 4 [(0, .ref (b 0)), (1, .int (nI x)), (2, .int (nI y))] := hl
  refine lv_iconst (v := 0) hx hb dM_copy_0 (by decide) ?_
  refine gi_as (y := nI 0) (nI_0.symm) ?_
  refine lv_istore_n (lv' := [(3, .int (nI 0)), (0, .ref (b 0)), (1, .int (nI x)), (2, .int (nI y))]) hx hb dM_copy_1 rfl hl (by decide) rfl (fun ls hl => ?_)
  have loop : ∀ (kk j : Nat), j + kk = 8 → ∀ (H : Heap) (locs : List Loc), va_P (dC, dI) classes (wM b d cd w2 ms2 n2 (upToI (fun m _ => ks2 (8 * x + m)) (8 * y) ks2 j) ct2 (upTo (fun m _ => sm2 (8 * x + m)) (8 * y) sm2 j) (upTo (fun m _ => le2 (8 * x + m)) (8 * y) le2 j) (upTo (fun m _ => gr2 (8 * x + m)) (8 * y) gr2 j) fk2 fa2) H → va_D A (wM b d cd w2 ms2 n2 (upToI (fun m _ => ks2 (8 * x + m)) (8 * y) ks2 j) ct2 (upTo (fun m _ => sm2 (8 * x + m)) (8 * y) sm2 j) (upTo (fun m _ => le2 (8 * x + m)) (8 * y) le2 j) (upTo (fun m _ => gr2 (8 * x + m)) (8 * y) gr2 j) fk2 fa2) → va_S A s.heap H locs → ∀ (ls : Array Slot), lv_has ls 4 [(3, .int (nI j)), (0, .ref (b 0)), (1, .int (nI x)), (2, .int (nI y))] → W p l e (headSpec (Cond.code yM_copy bM_copy 4 none :: wAll) rm0).room s m ([.ref (b 0), .int (nI x), .int (nI y)] : List Value).toArray below meth c H locs 0 0 (MQ below (va_Qv (fun _ : Unit => True) (fun (_ : Unit) (t9 : State) => va_P (dC, dI) classes (wM b d cd w2 ms2 n2 (upToI (fun m _ => ks2 (8 * x + m)) (8 * y) ks2 8) (vp_updL ct2 y (ct2 x)) (upTo (fun m _ => sm2 (8 * x + m)) (8 * y) sm2 8) (upTo (fun m _ => le2 (8 * x + m)) (8 * y) le2 8) (upTo (fun m _ => gr2 (8 * x + m)) (8 * y) gr2 8) fk2 fa2) t9.heap ∧ va_K (dC, dI) classes (kM d) t9 ∧ va_D A (wM b d cd w2 ms2 n2 (upToI (fun m _ => ks2 (8 * x + m)) (8 * y) ks2 8) (vp_updL ct2 y (ct2 x)) (upTo (fun m _ => sm2 (8 * x + m)) (8 * y) sm2 8) (upTo (fun m _ => le2 (8 * x + m)) (8 * y) le2 8) (upTo (fun m _ => gr2 (8 * x + m)) (8 * y) gr2 8) fk2 fa2)) A) ([.ref (b 0), .int (nI x), .int (nI y)] : List Value).toArray s 0 0 A) (F0 m 2 ls []) := by
    intro kk
    induction kk with
    | zero =>
      intro j hj H locs hP hD hS ls hl
      refine lv_iload_n hx hb dM_copy_2 rfl (lv_at hl 0 rfl) ?_
      refine lv_bipush (v := 8) hx hb dM_copy_3 (by decide) ?_
      refine gi_as (y := nI 8) (rfl) ?_
      refine lv_icmp_ge (tgt := 102) hx hb dM_copy_5 (by decide) (fun h1 => ?_) (fun h1 => ?_)
      · skip
        have hj : 8 = j := by omega
        subst hj
        refine lv_aload_n hx hb dM_copy_102 rfl (lv_at hl 1 rfl) ?_
        refine va_get (D := (dC, dI)) (ci := 1) (v := .ref (b 2)) (C := "GroupRowsModel") (T := FM) (N := 11) hx hb hta inM hown hK hP 0 rfl rfl 5 (by decide) (hta _ w285) (fun _ h9 => h9) rfl dM_copy_103 ?_
        refine lv_iload_n hx hb dM_copy_106 rfl (lv_at hl 3 rfl) ?_
        refine lv_aload_n hx hb dM_copy_107 rfl (lv_at hl 1 rfl) ?_
        refine va_get (D := (dC, dI)) (ci := 1) (v := .ref (b 2)) (C := "GroupRowsModel") (T := FM) (N := 11) hx hb hta inM hown hK hP 0 rfl rfl 5 (by decide) (hta _ w285) (fun _ h9 => h9) rfl dM_copy_108 ?_
        refine lv_iload_n hx hb dM_copy_111 rfl (lv_at hl 2 rfl) ?_
        refine gi_lald hx hb hK hP 2 1 rfl rfl (k := x) (by omega) (by decide) dM_copy_112 ?_
        refine gi_last hx hb hK hP hD hS 2 1 rfl rfl (k := y) (by omega) (by decide) dM_copy_113 (fun H locs hP hD hS => ?_)
        have hP : va_P (dC, dI) classes (wM b d cd w2 ms2 n2 (upToI (fun m _ => ks2 (8 * x + m)) (8 * y) ks2 8) (vp_updL ct2 y (ct2 x)) (upTo (fun m _ => sm2 (8 * x + m)) (8 * y) sm2 8) (upTo (fun m _ => le2 (8 * x + m)) (8 * y) le2 8) (upTo (fun m _ => gr2 (8 * x + m)) (8 * y) gr2 8) fk2 fa2) H := hP
        have hD : va_D A (wM b d cd w2 ms2 n2 (upToI (fun m _ => ks2 (8 * x + m)) (8 * y) ks2 8) (vp_updL ct2 y (ct2 x)) (upTo (fun m _ => sm2 (8 * x + m)) (8 * y) sm2 8) (upTo (fun m _ => le2 (8 * x + m)) (8 * y) le2 8) (upTo (fun m _ => gr2 (8 * x + m)) (8 * y) gr2 8) fk2 fa2) := hD
        have hP : va_P (dC, dI) classes (wM b d cd w2 ms2 n2 (upToI (fun m _ => ks2 (8 * x + m)) (8 * y) ks2 8) (vp_updL ct2 y (ct2 x)) (upTo (fun m _ => sm2 (8 * x + m)) (8 * y) sm2 8) (upTo (fun m _ => le2 (8 * x + m)) (8 * y) le2 8) (upTo (fun m _ => gr2 (8 * x + m)) (8 * y) gr2 8) fk2 fa2) H := hP
        have hD : va_D A (wM b d cd w2 ms2 n2 (upToI (fun m _ => ks2 (8 * x + m)) (8 * y) ks2 8) (vp_updL ct2 y (ct2 x)) (upTo (fun m _ => sm2 (8 * x + m)) (8 * y) sm2 8) (upTo (fun m _ => le2 (8 * x + m)) (8 * y) le2 8) (upTo (fun m _ => gr2 (8 * x + m)) (8 * y) gr2 8) fk2 fa2) := hD
        exact W.vret hx hb hr (fun t9 ht9 hW9 => ⟨⟨(), rfl, trivial, by rw [ht9]; exact hP, va_K.moved hW9.alike hK, hD⟩, hS.F ht9⟩) hS.2.2 dM_copy_114
      · skip
        exact absurd (nI_le (by omega) (by omega)) h1
    | succ kk ih =>
      intro j hj H locs hP hD hS ls hl
      refine lv_iload_n hx hb dM_copy_2 rfl (lv_at hl 0 rfl) ?_
      refine lv_bipush (v := 8) hx hb dM_copy_3 (by decide) ?_
      refine gi_as (y := nI 8) (rfl) ?_
      refine lv_icmp_ge (tgt := 102) hx hb dM_copy_5 (by decide) (fun h1 => ?_) (fun h1 => ?_)
      · skip
        exact absurd h1 (nI_ge (a := j) (by omega) (by omega))
      · skip
        refine lv_aload_n hx hb dM_copy_8 rfl (lv_at hl 1 rfl) ?_
        refine va_get (D := (dC, dI)) (ci := 1) (v := .ref (b 1)) (C := "GroupRowsModel") (T := FM) (N := 11) hx hb hta inM hown hK hP 0 rfl rfl 4 (by decide) (hta _ w284) (fun _ h9 => h9) rfl dM_copy_9 ?_
        refine lv_bipush (v := 8) hx hb dM_copy_12 (by decide) ?_
        refine lv_iload_n hx hb dM_copy_14 rfl (lv_at hl 3 rfl) ?_
        refine lv_imul hx hb dM_copy_15 ?_
        refine gi_as (y := nI (8 * y)) (gi_8mul _) ?_
        refine lv_iload_n hx hb dM_copy_16 rfl (lv_at hl 0 rfl) ?_
        refine lv_iadd hx hb dM_copy_17 ?_
        refine gi_as (y := nI ((8 * y) + j)) (nI_add _ _) ?_
        refine lv_aload_n hx hb dM_copy_18 rfl (lv_at hl 1 rfl) ?_
        refine va_get (D := (dC, dI)) (ci := 1) (v := .ref (b 1)) (C := "GroupRowsModel") (T := FM) (N := 11) hx hb hta inM hown hK hP 0 rfl rfl 4 (by decide) (hta _ w284) (fun _ h9 => h9) rfl dM_copy_19 ?_
        refine lv_bipush (v := 8) hx hb dM_copy_22 (by decide) ?_
        refine lv_iload_n hx hb dM_copy_24 rfl (lv_at hl 2 rfl) ?_
        refine lv_imul hx hb dM_copy_25 ?_
        refine gi_as (y := nI (8 * x)) (gi_8mul _) ?_
        refine lv_iload_n hx hb dM_copy_26 rfl (lv_at hl 0 rfl) ?_
        refine lv_iadd hx hb dM_copy_27 ?_
        refine gi_as (y := nI ((8 * x) + j)) (nI_add _ _) ?_
        refine gi_iald hx hb hK hP 1 0 rfl rfl (k := ((8 * x) + j)) (by omega) (by decide) dM_copy_28 ?_
        refine gi_as (y := ks2 (8 * x + j)) (upToI_out j (by omega)) ?_
        refine gi_iast hx hb hK hP hD hS 1 0 rfl rfl (k := ((8 * y) + j)) (by omega) (by decide) dM_copy_29 (fun H locs hP hD hS => ?_)
        have hP : va_P (dC, dI) classes (wM b d cd w2 ms2 n2 (upd (upToI (fun m _ => ks2 (8 * x + m)) (8 * y) ks2 j) ((8 * y) + j) (ks2 (8 * x + j))) ct2 (upTo (fun m _ => sm2 (8 * x + m)) (8 * y) sm2 j) (upTo (fun m _ => le2 (8 * x + m)) (8 * y) le2 j) (upTo (fun m _ => gr2 (8 * x + m)) (8 * y) gr2 j) fk2 fa2) H := hP
        have hD : va_D A (wM b d cd w2 ms2 n2 (upd (upToI (fun m _ => ks2 (8 * x + m)) (8 * y) ks2 j) ((8 * y) + j) (ks2 (8 * x + j))) ct2 (upTo (fun m _ => sm2 (8 * x + m)) (8 * y) sm2 j) (upTo (fun m _ => le2 (8 * x + m)) (8 * y) le2 j) (upTo (fun m _ => gr2 (8 * x + m)) (8 * y) gr2 j) fk2 fa2) := hD
        refine lv_aload_n hx hb dM_copy_30 rfl (lv_at hl 1 rfl) ?_
        refine va_get (D := (dC, dI)) (ci := 1) (v := .ref (b 3)) (C := "GroupRowsModel") (T := FM) (N := 11) hx hb hta inM hown hK hP 0 rfl rfl 6 (by decide) (hta _ w286) (fun _ h9 => h9) rfl dM_copy_31 ?_
        refine lv_bipush (v := 8) hx hb dM_copy_34 (by decide) ?_
        refine lv_iload_n hx hb dM_copy_36 rfl (lv_at hl 3 rfl) ?_
        refine lv_imul hx hb dM_copy_37 ?_
        refine gi_as (y := nI (8 * y)) (gi_8mul _) ?_
        refine lv_iload_n hx hb dM_copy_38 rfl (lv_at hl 0 rfl) ?_
        refine lv_iadd hx hb dM_copy_39 ?_
        refine gi_as (y := nI ((8 * y) + j)) (nI_add _ _) ?_
        refine lv_aload_n hx hb dM_copy_40 rfl (lv_at hl 1 rfl) ?_
        refine va_get (D := (dC, dI)) (ci := 1) (v := .ref (b 3)) (C := "GroupRowsModel") (T := FM) (N := 11) hx hb hta inM hown hK hP 0 rfl rfl 6 (by decide) (hta _ w286) (fun _ h9 => h9) rfl dM_copy_41 ?_
        refine lv_bipush (v := 8) hx hb dM_copy_44 (by decide) ?_
        refine lv_iload_n hx hb dM_copy_46 rfl (lv_at hl 2 rfl) ?_
        refine lv_imul hx hb dM_copy_47 ?_
        refine gi_as (y := nI (8 * x)) (gi_8mul _) ?_
        refine lv_iload_n hx hb dM_copy_48 rfl (lv_at hl 0 rfl) ?_
        refine lv_iadd hx hb dM_copy_49 ?_
        refine gi_as (y := nI ((8 * x) + j)) (nI_add _ _) ?_
        refine gi_lald hx hb hK hP 3 2 rfl rfl (k := ((8 * x) + j)) (by omega) (by decide) dM_copy_50 ?_
        refine gi_asl (y := sm2 (8 * x + j)) (upTo_out j (by omega)) ?_
        refine gi_last hx hb hK hP hD hS 3 2 rfl rfl (k := ((8 * y) + j)) (by omega) (by decide) dM_copy_51 (fun H locs hP hD hS => ?_)
        have hP : va_P (dC, dI) classes (wM b d cd w2 ms2 n2 (upd (upToI (fun m _ => ks2 (8 * x + m)) (8 * y) ks2 j) ((8 * y) + j) (ks2 (8 * x + j))) ct2 (vp_updL (upTo (fun m _ => sm2 (8 * x + m)) (8 * y) sm2 j) ((8 * y) + j) (sm2 (8 * x + j))) (upTo (fun m _ => le2 (8 * x + m)) (8 * y) le2 j) (upTo (fun m _ => gr2 (8 * x + m)) (8 * y) gr2 j) fk2 fa2) H := hP
        have hD : va_D A (wM b d cd w2 ms2 n2 (upd (upToI (fun m _ => ks2 (8 * x + m)) (8 * y) ks2 j) ((8 * y) + j) (ks2 (8 * x + j))) ct2 (vp_updL (upTo (fun m _ => sm2 (8 * x + m)) (8 * y) sm2 j) ((8 * y) + j) (sm2 (8 * x + j))) (upTo (fun m _ => le2 (8 * x + m)) (8 * y) le2 j) (upTo (fun m _ => gr2 (8 * x + m)) (8 * y) gr2 j) fk2 fa2) := hD
        refine lv_aload_n hx hb dM_copy_52 rfl (lv_at hl 1 rfl) ?_
        refine va_get (D := (dC, dI)) (ci := 1) (v := .ref (b 4)) (C := "GroupRowsModel") (T := FM) (N := 11) hx hb hta inM hown hK hP 0 rfl rfl 7 (by decide) (hta _ w287) (fun _ h9 => h9) rfl dM_copy_53 ?_
        refine lv_bipush (v := 8) hx hb dM_copy_56 (by decide) ?_
        refine lv_iload_n hx hb dM_copy_58 rfl (lv_at hl 3 rfl) ?_
        refine lv_imul hx hb dM_copy_59 ?_
        refine gi_as (y := nI (8 * y)) (gi_8mul _) ?_
        refine lv_iload_n hx hb dM_copy_60 rfl (lv_at hl 0 rfl) ?_
        refine lv_iadd hx hb dM_copy_61 ?_
        refine gi_as (y := nI ((8 * y) + j)) (nI_add _ _) ?_
        refine lv_aload_n hx hb dM_copy_62 rfl (lv_at hl 1 rfl) ?_
        refine va_get (D := (dC, dI)) (ci := 1) (v := .ref (b 4)) (C := "GroupRowsModel") (T := FM) (N := 11) hx hb hta inM hown hK hP 0 rfl rfl 7 (by decide) (hta _ w287) (fun _ h9 => h9) rfl dM_copy_63 ?_
        refine lv_bipush (v := 8) hx hb dM_copy_66 (by decide) ?_
        refine lv_iload_n hx hb dM_copy_68 rfl (lv_at hl 2 rfl) ?_
        refine lv_imul hx hb dM_copy_69 ?_
        refine gi_as (y := nI (8 * x)) (gi_8mul _) ?_
        refine lv_iload_n hx hb dM_copy_70 rfl (lv_at hl 0 rfl) ?_
        refine lv_iadd hx hb dM_copy_71 ?_
        refine gi_as (y := nI ((8 * x) + j)) (nI_add _ _) ?_
        refine gi_lald hx hb hK hP 4 3 rfl rfl (k := ((8 * x) + j)) (by omega) (by decide) dM_copy_72 ?_
        refine gi_asl (y := le2 (8 * x + j)) (upTo_out j (by omega)) ?_
        refine gi_last hx hb hK hP hD hS 4 3 rfl rfl (k := ((8 * y) + j)) (by omega) (by decide) dM_copy_73 (fun H locs hP hD hS => ?_)
        have hP : va_P (dC, dI) classes (wM b d cd w2 ms2 n2 (upd (upToI (fun m _ => ks2 (8 * x + m)) (8 * y) ks2 j) ((8 * y) + j) (ks2 (8 * x + j))) ct2 (vp_updL (upTo (fun m _ => sm2 (8 * x + m)) (8 * y) sm2 j) ((8 * y) + j) (sm2 (8 * x + j))) (vp_updL (upTo (fun m _ => le2 (8 * x + m)) (8 * y) le2 j) ((8 * y) + j) (le2 (8 * x + j))) (upTo (fun m _ => gr2 (8 * x + m)) (8 * y) gr2 j) fk2 fa2) H := hP
        have hD : va_D A (wM b d cd w2 ms2 n2 (upd (upToI (fun m _ => ks2 (8 * x + m)) (8 * y) ks2 j) ((8 * y) + j) (ks2 (8 * x + j))) ct2 (vp_updL (upTo (fun m _ => sm2 (8 * x + m)) (8 * y) sm2 j) ((8 * y) + j) (sm2 (8 * x + j))) (vp_updL (upTo (fun m _ => le2 (8 * x + m)) (8 * y) le2 j) ((8 * y) + j) (le2 (8 * x + j))) (upTo (fun m _ => gr2 (8 * x + m)) (8 * y) gr2 j) fk2 fa2) := hD
        refine lv_aload_n hx hb dM_copy_74 rfl (lv_at hl 1 rfl) ?_
        refine va_get (D := (dC, dI)) (ci := 1) (v := .ref (b 5)) (C := "GroupRowsModel") (T := FM) (N := 11) hx hb hta inM hown hK hP 0 rfl rfl 8 (by decide) (hta _ w288) (fun _ h9 => h9) rfl dM_copy_75 ?_
        refine lv_bipush (v := 8) hx hb dM_copy_78 (by decide) ?_
        refine lv_iload_n hx hb dM_copy_80 rfl (lv_at hl 3 rfl) ?_
        refine lv_imul hx hb dM_copy_81 ?_
        refine gi_as (y := nI (8 * y)) (gi_8mul _) ?_
        refine lv_iload_n hx hb dM_copy_82 rfl (lv_at hl 0 rfl) ?_
        refine lv_iadd hx hb dM_copy_83 ?_
        refine gi_as (y := nI ((8 * y) + j)) (nI_add _ _) ?_
        refine lv_aload_n hx hb dM_copy_84 rfl (lv_at hl 1 rfl) ?_
        refine va_get (D := (dC, dI)) (ci := 1) (v := .ref (b 5)) (C := "GroupRowsModel") (T := FM) (N := 11) hx hb hta inM hown hK hP 0 rfl rfl 8 (by decide) (hta _ w288) (fun _ h9 => h9) rfl dM_copy_85 ?_
        refine lv_bipush (v := 8) hx hb dM_copy_88 (by decide) ?_
        refine lv_iload_n hx hb dM_copy_90 rfl (lv_at hl 2 rfl) ?_
        refine lv_imul hx hb dM_copy_91 ?_
        refine gi_as (y := nI (8 * x)) (gi_8mul _) ?_
        refine lv_iload_n hx hb dM_copy_92 rfl (lv_at hl 0 rfl) ?_
        refine lv_iadd hx hb dM_copy_93 ?_
        refine gi_as (y := nI ((8 * x) + j)) (nI_add _ _) ?_
        refine gi_lald hx hb hK hP 5 4 rfl rfl (k := ((8 * x) + j)) (by omega) (by decide) dM_copy_94 ?_
        refine gi_asl (y := gr2 (8 * x + j)) (upTo_out j (by omega)) ?_
        refine gi_last hx hb hK hP hD hS 5 4 rfl rfl (k := ((8 * y) + j)) (by omega) (by decide) dM_copy_95 (fun H locs hP hD hS => ?_)
        have hP : va_P (dC, dI) classes (wM b d cd w2 ms2 n2 (upd (upToI (fun m _ => ks2 (8 * x + m)) (8 * y) ks2 j) ((8 * y) + j) (ks2 (8 * x + j))) ct2 (vp_updL (upTo (fun m _ => sm2 (8 * x + m)) (8 * y) sm2 j) ((8 * y) + j) (sm2 (8 * x + j))) (vp_updL (upTo (fun m _ => le2 (8 * x + m)) (8 * y) le2 j) ((8 * y) + j) (le2 (8 * x + j))) (vp_updL (upTo (fun m _ => gr2 (8 * x + m)) (8 * y) gr2 j) ((8 * y) + j) (gr2 (8 * x + j))) fk2 fa2) H := hP
        have hD : va_D A (wM b d cd w2 ms2 n2 (upd (upToI (fun m _ => ks2 (8 * x + m)) (8 * y) ks2 j) ((8 * y) + j) (ks2 (8 * x + j))) ct2 (vp_updL (upTo (fun m _ => sm2 (8 * x + m)) (8 * y) sm2 j) ((8 * y) + j) (sm2 (8 * x + j))) (vp_updL (upTo (fun m _ => le2 (8 * x + m)) (8 * y) le2 j) ((8 * y) + j) (le2 (8 * x + j))) (vp_updL (upTo (fun m _ => gr2 (8 * x + m)) (8 * y) gr2 j) ((8 * y) + j) (gr2 (8 * x + j))) fk2 fa2) := hD
        refine lv_iinc (v := (nI (j + 1))) (lv' := [(3, .int (nI (j + 1))), (0, .ref (b 0)), (1, .int (nI x)), (2, .int (nI y))]) hx hb dM_copy_96 hl (k := 0) rfl (nI_1 _) (by decide) rfl (fun ls hl => ?_)
        refine lv_goto (tgt := 2) hx hb dM_copy_99 (by decide) ?_
        have hl := lv_sub hl [0, 1, 2, 3] rfl
        have hl : lv_has ls 4 [(3, .int (nI (j + 1))), (0, .ref (b 0)), (1, .int (nI x)), (2, .int (nI y))] := hl
        exact ih (j + 1) (by omega) H locs hP hD hS ls hl
  have hl := lv_sub hl [0, 1, 2, 3] rfl
  have hl : lv_has ls 4 [(3, .int (nI 0)), (0, .ref (b 0)), (1, .int (nI x)), (2, .int (nI y))] := hl
  exact loop 8 0 (by omega) s.heap [] hP hD hS ls hl
end
section
/-! the model: a fact that comes -/
abbrev atM (dC : Nat → ClassId) (dI : Nat → Nat → Nat) (A : Nat → Prop) (b : Nat → Nat) (d : Nat → ClassId) (cd : Int32) (wn mn : Nat) (fk : Nat → Int32) (fa : Nat → Int64) (T : TB) (t : State) : Prop :=
  ∃ (ks2 : Nat → Int32) (ct2 sm2 le2 gr2 : Nat → Int64), repT (fun p => p) wn mn T ks2 ct2 sm2 le2 gr2 ∧ va_P (dC, dI) classes (wM b d cd (nI wn) (nI mn) (nI T.1) ks2 ct2 sm2 le2 gr2 fk fa) t.heap ∧ va_K (dC, dI) classes (kM d) t ∧ va_D A (wM b d cd (nI wn) (nI mn) (nI T.1) ks2 ct2 sm2 le2 gr2 fk fa)
theorem repM_low {w ms : Nat} {T : TB} {ks : Nat → Int32} {ct sm le gr : Nat → Int64} {fk : Nat → Int32} (h : repT (fun p => p) w ms T ks ct sm le gr) : isLow w T.1 (fun j i => ks (8 * j + i)) fk (lowP w T.1 T.2.1 fk) := isLow_congr (fun j hj => h.2.1 j hj) (lowP_is h.2.2.2.2)
theorem repM_has {w ms : Nat} {T : TB} {ks : Nat → Int32} {ct sm le gr : Nat → Int64} {fk : Nat → Int32} {ps : Nat} (h : repT (fun p => p) w ms T ks ct sm le gr) (hp : ps < T.1) : lx fk (fun i => ks (8 * ps + i)) w 0 = 0 ↔ lx (T.2.1 ps) fk w 0 = 0 := by
  rw [lx_eq, lx_eq]
  have e := h.2.1 ps hp
  exact ⟨fun q => keq_symm (keq_trans q e), fun q => keq_symm (keq_trans e q)⟩
theorem repM_hit {w mn ps : Nat} {T : TB} {ks : Nat → Int32} {ct sm le gr : Nat → Int64} {fa : Nat → Int64} {nn : Int64} (h : repT (fun p => p) w mn T ks ct sm le gr) (hp : ps < T.1) :
    repT (fun p => p) w mn (hitT ps fa nn T) ks (vp_updL ct ps (ct ps + nn)) (upTo (fun m x => x + nn * fa m) (8 * ps) sm mn) (upTo (fun m x => if fa m < x then fa m else x) (8 * ps) le mn) (upTo (fun m x => if x < fa m then fa m else x) (8 * ps) gr mn) := by
  have h8 := h.1.2.2.1
  refine rep_hit h hp (fun p h1 h2 => pk_uLn h2) pk_uLs (fun p m h1 h2 h3 => ?_) (fun m h3 => ⟨(upTo_at mn h3).trans (by rw [Int64.mul_comm]), upTo_at mn h3, upTo_at mn h3⟩)
  exact ⟨upTo_out mn (by omega), upTo_out mn (by omega), upTo_out mn (by omega)⟩
def shf {α : Type} (f f1 : Nat → α) (n k0 : Nat) : Prop := ∀ p m, p < 1000 → m < 8 → f1 (8 * p + m) = if k0 < p ∧ p ≤ n then f (8 * (p - 1) + m) else f (8 * p + m)
def shc {α : Type} (f f1 : Nat → α) (n k0 : Nat) : Prop := ∀ p, p < 1000 → f1 p = if k0 < p ∧ p ≤ n then f (p - 1) else f p
theorem shf_0 {α : Type} (f : Nat → α) (n : Nat) : shf f f n n := fun p m _ _ => by rw [if_neg (by omega)]
theorem shc_0 {α : Type} (f : Nat → α) (n : Nat) : shc f f n n := fun p _ => by rw [if_neg (by omega)]
theorem shf_I {f f1 : Nat → Int32} {n k : Nat} (h : shf f f1 n (k + 1)) (hk : k + 1 ≤ n) (hn : n < 1000) : shf f (upToI (fun m _ => f1 (8 * k + m)) (8 * (k + 1)) f1 8) n k := by
  intro p m hp hm
  by_cases e : p = k + 1
  · subst e
    rw [upToI_at 8 hm, h k m (by omega) hm, if_neg (by omega), if_pos (by omega), Nat.add_sub_cancel]
  · rw [upToI_out 8 (by omega), h p m hp hm]
    by_cases q : k + 1 < p ∧ p ≤ n
    · rw [if_pos q, if_pos (by omega)]
    · rw [if_neg q, if_neg (by omega)]
theorem shf_L {f f1 : Nat → Int64} {n k : Nat} (h : shf f f1 n (k + 1)) (hk : k + 1 ≤ n) (hn : n < 1000) : shf f (upTo (fun m _ => f1 (8 * k + m)) (8 * (k + 1)) f1 8) n k := by
  intro p m hp hm
  by_cases e : p = k + 1
  · subst e
    rw [upTo_at 8 hm, h k m (by omega) hm, if_neg (by omega), if_pos (by omega), Nat.add_sub_cancel]
  · rw [upTo_out 8 (by omega), h p m hp hm]
    by_cases q : k + 1 < p ∧ p ≤ n
    · rw [if_pos q, if_pos (by omega)]
    · rw [if_neg q, if_neg (by omega)]
theorem shc_L {f f1 : Nat → Int64} {n k : Nat} (h : shc f f1 n (k + 1)) (hk : k + 1 ≤ n) (hn : n < 1000) : shc f (vp_updL f1 (k + 1) (f1 k)) n k := by
  intro p hp
  by_cases e : p = k + 1
  · subst e
    rw [pk_uLs, h k (by omega), if_neg (by omega), if_pos (by omega), Nat.add_sub_cancel]
  · rw [pk_uLn e, h p hp]
    by_cases q : k + 1 < p ∧ p ≤ n
    · rw [if_pos q, if_pos (by omega)]
    · rw [if_neg q, if_neg (by omega)]
theorem repM_new {w mn ps : Nat} {T : TB} {ks ks1 : Nat → Int32} {ct sm le gr ct1 sm1 le1 gr1 : Nat → Int64} {fk : Nat → Int32} {fa : Nat → Int64} {nn : Int64} (h : repT (fun p => p) w mn T ks ct sm le gr) (hn : T.1 < 1000) (hl : isLow w T.1 T.2.1 fk ps) (hne : ps < T.1 → ¬ keq w (T.2.1 ps) fk)
    (hk : shf ks ks1 T.1 ps) (hc : shc ct ct1 T.1 ps) (hs : shf sm sm1 T.1 ps) (hle : shf le le1 T.1 ps) (hg : shf gr gr1 T.1 ps) :
    repT (fun p => p) w mn (newT ps fk fa nn T) (upToI (fun m _ => fk m) (8 * ps) ks1 8) (vp_updL (vp_updL ct1 ps 0) ps (vp_updL ct1 ps 0 ps + nn)) (upTo (fun m x => x + nn * fa m) (8 * ps) (upTo (fun _ _ => 0) (8 * ps) sm1 8) mn) (upTo (fun m x => if fa m < x then fa m else x) (8 * ps) (upTo (fun m _ => fa m) (8 * ps) le1 8) mn) (upTo (fun m x => if x < fa m then fa m else x) (8 * ps) (upTo (fun m _ => fa m) (8 * ps) gr1 8) mn) := by
  obtain ⟨⟨a1, a2, a3, a4⟩, r2, r3, r4, r5⟩ := h
  have hps := hl.1
  refine ⟨⟨a1, a2, a3, by show T.1 + 1 ≤ 1000; omega⟩, fun p hp i hi => ?_, fun p hp => ?_, fun p m hp hm => ?_, srt_ins r5 hl hne⟩
  · have hp : p < T.1 + 1 := hp
    show upToI (fun m _ => fk m) (8 * ps) ks1 8 (8 * p + i) = insF ps fk T.2.1 p i
    rcases Nat.lt_trichotomy p ps with q | q | q
    · rw [upToI_out 8 (by omega), hk p i (by omega) (by omega), if_neg (by omega), insF_lt q]; exact r2 p (by omega) i hi
    · subst q; rw [upToI_at 8 (by omega), insF_eq]
    · rw [upToI_out 8 (by omega), hk p i (by omega) (by omega), if_pos (by omega), insF_gt q]; exact r2 (p - 1) (by omega) i hi
  · have hp : p < T.1 + 1 := hp
    show vp_updL (vp_updL ct1 ps 0) ps (vp_updL ct1 ps 0 ps + nn) p = insF ps nn T.2.2.1 p
    rcases Nat.lt_trichotomy p ps with q | q | q
    · rw [pk_uLn (by omega), pk_uLn (by omega), hc p (by omega), if_neg (by omega), insF_lt q]; exact r3 p (by omega)
    · subst q; rw [pk_uLs, pk_uLs, insF_eq]; exact Int64.zero_add nn
    · rw [pk_uLn (by omega), pk_uLn (by omega), hc p (by omega), if_pos (by omega), insF_gt q]; exact r3 (p - 1) (by omega)
  · have hp : p < T.1 + 1 := hp
    show upTo _ (8 * ps) (upTo _ (8 * ps) sm1 8) mn (8 * p + m) = insF ps (fun m => fa m * nn) T.2.2.2.1 p m ∧ upTo _ (8 * ps) (upTo _ (8 * ps) le1 8) mn (8 * p + m) = insF ps fa T.2.2.2.2.1 p m ∧ upTo _ (8 * ps) (upTo _ (8 * ps) gr1 8) mn (8 * p + m) = insF ps fa T.2.2.2.2.2 p m
    rcases Nat.lt_trichotomy p ps with q | q | q
    · rw [upTo_out mn (by omega), upTo_out 8 (by omega), upTo_out mn (by omega), upTo_out 8 (by omega), upTo_out mn (by omega), upTo_out 8 (by omega), hs p m (by omega) (by omega), hle p m (by omega) (by omega), hg p m (by omega) (by omega), if_neg (by omega), if_neg (by omega), if_neg (by omega), insF_lt q, insF_lt q, insF_lt q]
      exact r4 p m (by omega) hm
    · subst q
      have h8 : m < 8 := by omega
      rw [upTo_at mn hm, upTo_at 8 h8, upTo_at mn hm, upTo_at 8 h8, upTo_at mn hm, upTo_at 8 h8, insF_eq, insF_eq, insF_eq]
      refine ⟨?_, ?_, ?_⟩
      · rw [Int64.zero_add, Int64.mul_comm]
      · simp
      · simp
    · rw [upTo_out mn (by omega), upTo_out 8 (by omega), upTo_out mn (by omega), upTo_out 8 (by omega), upTo_out mn (by omega), upTo_out 8 (by omega), hs p m (by omega) (by omega), hle p m (by omega) (by omega), hg p m (by omega) (by omega), if_pos (by omega), if_pos (by omega), if_pos (by omega), insF_gt q, insF_gt q, insF_gt q]
      exact r4 (p - 1) m (by omega) hm
end
section
set_option maxHeartbeats 4000000 in
set_option maxRecDepth 100000 in
/-- comes -/
theorem c_comes (l : Launch) (dC : Nat → ClassId) (dI : Nat → Nat → Nat) (b : Nat → Nat) (d : Nat → ClassId) (cd : Int32) (wn mn : Nat) (fk : Nat → Int32) (fa : Nat → Int64) (T : TB) (ks2 : Nat → Int32) (ct2 sm2 le2 gr2 : Nat → Int64) (hrep : repT (fun p => p) wn mn T ks2 ct2 sm2 le2 gr2) (nn : Int32) (sz : Nat)  : Met l yM_comes (Cond.code yM_comes bM_comes 7 (some .boolean) :: wAll) { frames := 2, cells := 0, slots := 0, locals := 96 } (va_Pc [.ref (b 0), .int nn] (fun U => U.heap.size = sz ∧ va_P (dC, dI) classes (wM b d cd (nI wn) (nI mn) (nI T.1) ks2 ct2 sm2 le2 gr2 fk fa) U.heap ∧ va_K (dC, dI) classes (kM d) U ∧ va_D (fun _ => True) (wM b d cd (nI wn) (nI mn) (nI T.1) ks2 ct2 sm2 le2 gr2 fk fa))) (va_Qi (fun (r9 : Int32) (_ : Unit) => r9 = (if (takeT wn fk fa nn.toInt64 T).2 = true then 1 else 0)) (fun (_ : Unit) (t9 : State) => atM dC dI (va_A (wM b d cd (nI wn) (nI mn) (nI T.1) ks2 ct2 sm2 le2 gr2 fk fa) sz) b d cd wn mn fk fa (takeT wn fk fa nn.toInt64 T).1 t9) (va_A (wM b d cd (nI wn) (nI mn) (nI T.1) ks2 ct2 sm2 le2 gr2 fk fa) sz)) 0 0 (va_A (wM b d cd (nI wn) (nI mn) (nI T.1) ks2 ct2 sm2 le2 gr2 fk fa) sz) := by
  refine Met.ofW (cc := bM_comes) (maxL := 7) (ret := (some .boolean)) (by decide) rfl ?_
  intro p e s m args below meth c s₁ B hml hv
  obtain ⟨rfl, hsz, hP, hK, hD0⟩ := hv
  have hx := B.exec
  have hb := B.bytes
  have hr := B.returns
  have hta : ∀ w ∈ wAll, w.before ([.ref (b 0), .int nn] : List Value).toArray s = true := fun w h => atoms_spec (ws := (Cond.code yM_comes bM_comes 7 (some .boolean) :: wAll)) B.pre w (List.mem_cons_of_mem _ h)
  have hown : s.vm.findClass "GroupRowsModel" = some m.cls := findClass_of_methodNamed B.named
  have hlocks := B.notSynchronized
  subst hsz
  have hD := hD0.self (sz := s.heap.size)
  generalize hAe : va_A (wM b d cd (nI wn) (nI mn) (nI T.1) ks2 ct2 sm2 le2 gr2 fk fa) s.heap.size = A at hD ⊢
  have hA : ∀ q : Nat, s.heap.size ≤ q → A q := fun q h => by rw [← hAe]; exact Or.inr h
  have hS : va_S A s.heap s.heap [] := va_S.rf
  have hP : va_P (dC, dI) classes (wM b d cd (nI wn) (nI mn) (nI T.1) ks2 ct2 sm2 le2 gr2 fk fa) s.heap := hP
  have hl := lv_entry ([.ref (b 0), .int nn]) (n := 7) (Nat.le_of_ble_eq_true rfl)
  rw [lg_entry_eq]
  generalize (lg_sl ([.ref (b 0), .int nn]) ++ List.replicate (7 - (lg_sl ([.ref (b 0), .int nn])).length) Slot.unset).toArray = ls at hl ⊢
  have hl : lv_has ls 7 [(0, .ref (b 0)), (1, .int nn)] := hl
  obtain ⟨⟨hwn, hmn1, hmn, hn⟩, hk9, hc9, hv9, hs9⟩ := id hrep
  have hlow := repM_low (fk := fk) hrep
  have hlow2 := lowP_is (key := fk) hrep.2.2.2.2
  obtain ⟨ps, eps⟩ : ∃ ps, ps = lowP wn T.1 T.2.1 fk := ⟨_, rfl⟩
  rw [← eps] at hlow hlow2
  have hps := hlow.1
  obtain ⟨n64, en64⟩ : ∃ z : Int64, z = nn.toInt64 := ⟨_, rfl⟩
  have tail : ∀ (n1 : Nat) (ks1 : Nat → Int32) (ct1 sm1 le1 gr1 : Nat → Int64), ps < 1000 → n1 = (takeT wn fk fa nn.toInt64 T).1.1 → (takeT wn fk fa nn.toInt64 T).2 = true → repT (fun p => p) wn mn (takeT wn fk fa nn.toInt64 T).1 ks1 (vp_updL ct1 ps (ct1 ps + nn.toInt64)) (upTo (fun m x => x + nn.toInt64 * fa m) (8 * ps) sm1 mn) (upTo (fun m x => if fa m < x then fa m else x) (8 * ps) le1 mn) (upTo (fun m x => if x < fa m then fa m else x) (8 * ps) gr1 mn) → ∀ (H : Heap) (locs : List Loc), va_P (dC, dI) classes (wM b d cd (nI wn) (nI mn) (nI n1) ks1 ct1 sm1 le1 gr1 fk fa) H → va_D A (wM b d cd (nI wn) (nI mn) (nI n1) ks1 ct1 sm1 le1 gr1 fk fa) → va_S A s.heap H locs → ∀ (ls : Array Slot), lv_has ls 7 [(2, .int (nI ps)), (0, .ref (b 0)), (1, .int nn)] → W p l e (headSpec (Cond.code yM_comes bM_comes 7 (some .boolean) :: wAll) { frames := 2, cells := 0, slots := 0, locals := 96 }).room s m ([.ref (b 0), .int nn] : List Value).toArray below meth c H locs 0 0 (MQ below (va_Qi (fun (r9 : Int32) (_ : Unit) => r9 = (if (takeT wn fk fa nn.toInt64 T).2 = true then 1 else 0)) (fun (_ : Unit) (t9 : State) => atM dC dI A b d cd wn mn fk fa (takeT wn fk fa nn.toInt64 T).1 t9) A) ([.ref (b 0), .int nn] : List Value).toArray s 0 0 A) (F0 m 178 ls []) := by
    intro n1 ks1 ct1 sm1 le1 gr1 hps9 en1 htk hfin H locs hP hD hS ls hl
    refine lv_aload_n hx hb dM_comes_178 rfl (lv_at hl 1 rfl) ?_
    refine va_get (D := (dC, dI)) (ci := 1) (v := .ref (b 2)) (C := "GroupRowsModel") (T := FM) (N := 11) hx hb hta inM hown hK hP 0 rfl rfl 5 (by decide) (hta _ w285) (fun _ h9 => h9) rfl dM_comes_179 ?_
    refine lv_iload_n hx hb dM_comes_182 rfl (lv_at hl 0 rfl) ?_
    refine lv_dup2_11 hx hb dM_comes_183 rfl rfl ?_
    refine gi_lald hx hb hK hP 2 1 rfl rfl (k := ps) (by omega) (by decide) dM_comes_184 ?_
    refine lv_iload_n hx hb dM_comes_185 rfl (lv_at hl 2 rfl) ?_
    refine lv_i2l (v := nn.toInt64) hx hb dM_comes_186 rfl ?_
    refine lv_ladd hx hb dM_comes_187 ?_
    refine gi_last hx hb hK hP hD hS 2 1 rfl rfl (k := ps) (by omega) (by decide) dM_comes_188 (fun H locs hP hD hS => ?_)
    have hP : va_P (dC, dI) classes (wM b d cd (nI wn) (nI mn) (nI n1) ks1 (vp_updL ct1 ps ((ct1 ps) + (nn.toInt64))) sm1 le1 gr1 fk fa) H := hP
    have hD : va_D A (wM b d cd (nI wn) (nI mn) (nI n1) ks1 (vp_updL ct1 ps ((ct1 ps) + (nn.toInt64))) sm1 le1 gr1 fk fa) := hD
    refine lv_iconst (v := 0) hx hb dM_comes_189 (by decide) ?_
    refine gi_as (y := nI 0) (nI_0.symm) ?_
    refine lv_istore (lv' := [(4, .int (nI 0)), (2, .int (nI ps)), (0, .ref (b 0)), (1, .int nn)]) hx hb dM_comes_190 hl (by decide) rfl (fun ls hl => ?_)
    have loop : ∀ (kk j : Nat), j + kk = mn → ∀ (H : Heap) (locs : List Loc), va_P (dC, dI) classes (wM b d cd (nI wn) (nI mn) (nI n1) ks1 (vp_updL ct1 ps (ct1 ps + nn.toInt64)) (upTo (fun m x => x + nn.toInt64 * fa m) (8 * ps) sm1 j) (upTo (fun m x => if fa m < x then fa m else x) (8 * ps) le1 j) (upTo (fun m x => if x < fa m then fa m else x) (8 * ps) gr1 j) fk fa) H → va_D A (wM b d cd (nI wn) (nI mn) (nI n1) ks1 (vp_updL ct1 ps (ct1 ps + nn.toInt64)) (upTo (fun m x => x + nn.toInt64 * fa m) (8 * ps) sm1 j) (upTo (fun m x => if fa m < x then fa m else x) (8 * ps) le1 j) (upTo (fun m x => if x < fa m then fa m else x) (8 * ps) gr1 j) fk fa) → va_S A s.heap H locs → ∀ (ls : Array Slot), lv_has ls 7 [(4, .int (nI j)), (2, .int (nI ps)), (0, .ref (b 0)), (1, .int nn)] → W p l e (headSpec (Cond.code yM_comes bM_comes 7 (some .boolean) :: wAll) { frames := 2, cells := 0, slots := 0, locals := 96 }).room s m ([.ref (b 0), .int nn] : List Value).toArray below meth c H locs 0 0 (MQ below (va_Qi (fun (r9 : Int32) (_ : Unit) => r9 = (if (takeT wn fk fa nn.toInt64 T).2 = true then 1 else 0)) (fun (_ : Unit) (t9 : State) => atM dC dI A b d cd wn mn fk fa (takeT wn fk fa nn.toInt64 T).1 t9) A) ([.ref (b 0), .int nn] : List Value).toArray s 0 0 A) (F0 m 192 ls []) := by
      intro kk
      induction kk with
      | zero =>
        intro j hj H locs hP hD hS ls hl
        refine lv_iload hx hb dM_comes_192 (lv_at hl 0 rfl) ?_
        refine lv_aload_n hx hb dM_comes_194 rfl (lv_at hl 2 rfl) ?_
        refine va_get (D := (dC, dI)) (ci := 1) (v := .int (nI mn)) (C := "GroupRowsModel") (T := FM) (N := 11) hx hb hta inM hown hK hP 0 rfl rfl 2 (by decide) (hta _ w282) (fun _ h9 => h9) rfl dM_comes_195 ?_
        refine lv_icmp_ge (tgt := 330) hx hb dM_comes_198 (by decide) (fun h1 => ?_) (fun h1 => ?_)
        · skip
          have hj : mn = j := by omega
          subst hj
          subst en1
          refine lv_iconst (v := 1) hx hb dM_comes_330 (by decide) ?_
          exact W.zret (v := 1) hx hb hr rfl (fun t9 ht9 hW9 => ⟨⟨1, (), rfl, (if_pos htk).symm, ⟨_, _, _, _, _, hfin, by rw [ht9]; exact hP, va_K.moved hW9.alike hK, hD⟩⟩, hS.F ht9⟩) hS.2.2 dM_comes_331
        · skip
          exact absurd (nI_le (by omega) (by omega)) h1
      | succ kk ih =>
        intro j hj H locs hP hD hS ls hl
        refine lv_iload hx hb dM_comes_192 (lv_at hl 0 rfl) ?_
        refine lv_aload_n hx hb dM_comes_194 rfl (lv_at hl 2 rfl) ?_
        refine va_get (D := (dC, dI)) (ci := 1) (v := .int (nI mn)) (C := "GroupRowsModel") (T := FM) (N := 11) hx hb hta inM hown hK hP 0 rfl rfl 2 (by decide) (hta _ w282) (fun _ h9 => h9) rfl dM_comes_195 ?_
        refine lv_icmp_ge (tgt := 330) hx hb dM_comes_198 (by decide) (fun h1 => ?_) (fun h1 => ?_)
        · skip
          exact absurd h1 (nI_ge (a := j) (by omega) (by omega))
        · skip
          refine lv_aload_n hx hb dM_comes_201 rfl (lv_at hl 2 rfl) ?_
          refine va_get (D := (dC, dI)) (ci := 1) (v := .ref (b 7)) (C := "GroupRowsModel") (T := FM) (N := 11) hx hb hta inM hown hK hP 0 rfl rfl 10 (by decide) (hta _ w290) (fun _ h9 => h9) rfl dM_comes_202 ?_
          refine lv_iload hx hb dM_comes_205 (lv_at hl 0 rfl) ?_
          refine gi_lald hx hb hK hP 7 6 rfl rfl (k := j) (by omega) (by decide) dM_comes_207 ?_
          refine lv_lstore (lv' := [(5, .long (fa j)), (4, .int (nI j)), (2, .int (nI ps)), (0, .ref (b 0)), (1, .int nn)]) hx hb dM_comes_208 hl (by decide) rfl (fun ls hl => ?_)
          refine lv_aload_n hx hb dM_comes_210 rfl (lv_at hl 3 rfl) ?_
          refine va_get (D := (dC, dI)) (ci := 1) (v := .ref (b 3)) (C := "GroupRowsModel") (T := FM) (N := 11) hx hb hta inM hown hK hP 0 rfl rfl 6 (by decide) (hta _ w286) (fun _ h9 => h9) rfl dM_comes_211 ?_
          refine lv_bipush (v := 8) hx hb dM_comes_214 (by decide) ?_
          refine lv_iload_n hx hb dM_comes_216 rfl (lv_at hl 2 rfl) ?_
          refine lv_imul hx hb dM_comes_217 ?_
          refine gi_as (y := nI (8 * ps)) (gi_8mul _) ?_
          refine lv_iload hx hb dM_comes_218 (lv_at hl 1 rfl) ?_
          refine lv_iadd hx hb dM_comes_220 ?_
          refine gi_as (y := nI ((8 * ps) + j)) (nI_add _ _) ?_
          refine lv_dup2_11 hx hb dM_comes_221 rfl rfl ?_
          refine gi_lald hx hb hK hP 3 2 rfl rfl (k := ((8 * ps) + j)) (by omega) (by decide) dM_comes_222 ?_
          refine lv_iload_n hx hb dM_comes_223 rfl (lv_at hl 4 rfl) ?_
          refine lv_i2l (v := nn.toInt64) hx hb dM_comes_224 rfl ?_
          refine lv_lload hx hb dM_comes_225 (lv_at hl 0 rfl) ?_
          refine lv_lmul hx hb dM_comes_227 ?_
          refine lv_ladd hx hb dM_comes_228 ?_
          refine gi_last hx hb hK hP hD hS 3 2 rfl rfl (k := ((8 * ps) + j)) (by omega) (by decide) dM_comes_229 (fun H locs hP hD hS => ?_)
          have hP : va_P (dC, dI) classes (wM b d cd (nI wn) (nI mn) (nI n1) ks1 (vp_updL ct1 ps (ct1 ps + nn.toInt64)) (vp_updL (upTo (fun m x => x + nn.toInt64 * fa m) (8 * ps) sm1 j) ((8 * ps) + j) (((upTo (fun m x => x + nn.toInt64 * fa m) (8 * ps) sm1 j) ((8 * ps) + j)) + ((nn.toInt64) * (fa j)))) (upTo (fun m x => if fa m < x then fa m else x) (8 * ps) le1 j) (upTo (fun m x => if x < fa m then fa m else x) (8 * ps) gr1 j) fk fa) H := hP
          have hD : va_D A (wM b d cd (nI wn) (nI mn) (nI n1) ks1 (vp_updL ct1 ps (ct1 ps + nn.toInt64)) (vp_updL (upTo (fun m x => x + nn.toInt64 * fa m) (8 * ps) sm1 j) ((8 * ps) + j) (((upTo (fun m x => x + nn.toInt64 * fa m) (8 * ps) sm1 j) ((8 * ps) + j)) + ((nn.toInt64) * (fa j)))) (upTo (fun m x => if fa m < x then fa m else x) (8 * ps) le1 j) (upTo (fun m x => if x < fa m then fa m else x) (8 * ps) gr1 j) fk fa) := hD
          refine lv_aload_n hx hb dM_comes_230 rfl (lv_at hl 3 rfl) ?_
          refine va_get (D := (dC, dI)) (ci := 1) (v := .ref (b 4)) (C := "GroupRowsModel") (T := FM) (N := 11) hx hb hta inM hown hK hP 0 rfl rfl 7 (by decide) (hta _ w287) (fun _ h9 => h9) rfl dM_comes_231 ?_
          refine lv_bipush (v := 8) hx hb dM_comes_234 (by decide) ?_
          refine lv_iload_n hx hb dM_comes_236 rfl (lv_at hl 2 rfl) ?_
          refine lv_imul hx hb dM_comes_237 ?_
          refine gi_as (y := nI (8 * ps)) (gi_8mul _) ?_
          refine lv_iload hx hb dM_comes_238 (lv_at hl 1 rfl) ?_
          refine lv_iadd hx hb dM_comes_240 ?_
          refine gi_as (y := nI ((8 * ps) + j)) (nI_add _ _) ?_
          refine lv_lload hx hb dM_comes_241 (lv_at hl 0 rfl) ?_
          refine lv_aload_n hx hb dM_comes_243 rfl (lv_at hl 3 rfl) ?_
          refine va_get (D := (dC, dI)) (ci := 1) (v := .ref (b 4)) (C := "GroupRowsModel") (T := FM) (N := 11) hx hb hta inM hown hK hP 0 rfl rfl 7 (by decide) (hta _ w287) (fun _ h9 => h9) rfl dM_comes_244 ?_
          refine lv_bipush (v := 8) hx hb dM_comes_247 (by decide) ?_
          refine lv_iload_n hx hb dM_comes_249 rfl (lv_at hl 2 rfl) ?_
          refine lv_imul hx hb dM_comes_250 ?_
          refine gi_as (y := nI (8 * ps)) (gi_8mul _) ?_
          refine lv_iload hx hb dM_comes_251 (lv_at hl 1 rfl) ?_
          refine lv_iadd hx hb dM_comes_253 ?_
          refine gi_as (y := nI ((8 * ps) + j)) (nI_add _ _) ?_
          refine gi_lald hx hb hK hP 4 3 rfl rfl (k := ((8 * ps) + j)) (by omega) (by decide) dM_comes_254 ?_
          have j1 : W p l e (headSpec (Cond.code yM_comes bM_comes 7 (some .boolean) :: wAll) { frames := 2, cells := 0, slots := 0, locals := 96 }).room s m ([.ref (b 0), .int nn] : List Value).toArray below meth c H locs 0 0 (MQ below (va_Qi (fun (r9 : Int32) (_ : Unit) => r9 = (if (takeT wn fk fa nn.toInt64 T).2 = true then 1 else 0)) (fun (_ : Unit) (t9 : State) => atM dC dI A b d cd wn mn fk fa (takeT wn fk fa nn.toInt64 T).1 t9) A) ([.ref (b 0), .int nn] : List Value).toArray s 0 0 A) (F0 m 276 ls [.long (if fa j < (upTo (fun m x => if fa m < x then fa m else x) (8 * ps) le1 j) (8 * ps + j) then fa j else (upTo (fun m x => if fa m < x then fa m else x) (8 * ps) le1 j) (8 * ps + j)),.int (nI ((8 * ps) + j)),.ref (b 4)]) := by
            refine gi_last hx hb hK hP hD hS 4 3 rfl rfl (k := ((8 * ps) + j)) (by omega) (by decide) dM_comes_276 (fun H locs hP hD hS => ?_)
            have hP : va_P (dC, dI) classes (wM b d cd (nI wn) (nI mn) (nI n1) ks1 (vp_updL ct1 ps (ct1 ps + nn.toInt64)) (vp_updL (upTo (fun m x => x + nn.toInt64 * fa m) (8 * ps) sm1 j) ((8 * ps) + j) (((upTo (fun m x => x + nn.toInt64 * fa m) (8 * ps) sm1 j) ((8 * ps) + j)) + ((nn.toInt64) * (fa j)))) (vp_updL (upTo (fun m x => if fa m < x then fa m else x) (8 * ps) le1 j) ((8 * ps) + j) (if fa j < (upTo (fun m x => if fa m < x then fa m else x) (8 * ps) le1 j) (8 * ps + j) then fa j else (upTo (fun m x => if fa m < x then fa m else x) (8 * ps) le1 j) (8 * ps + j))) (upTo (fun m x => if x < fa m then fa m else x) (8 * ps) gr1 j) fk fa) H := hP
            have hD : va_D A (wM b d cd (nI wn) (nI mn) (nI n1) ks1 (vp_updL ct1 ps (ct1 ps + nn.toInt64)) (vp_updL (upTo (fun m x => x + nn.toInt64 * fa m) (8 * ps) sm1 j) ((8 * ps) + j) (((upTo (fun m x => x + nn.toInt64 * fa m) (8 * ps) sm1 j) ((8 * ps) + j)) + ((nn.toInt64) * (fa j)))) (vp_updL (upTo (fun m x => if fa m < x then fa m else x) (8 * ps) le1 j) ((8 * ps) + j) (if fa j < (upTo (fun m x => if fa m < x then fa m else x) (8 * ps) le1 j) (8 * ps + j) then fa j else (upTo (fun m x => if fa m < x then fa m else x) (8 * ps) le1 j) (8 * ps + j))) (upTo (fun m x => if x < fa m then fa m else x) (8 * ps) gr1 j) fk fa) := hD
            refine lv_aload_n hx hb dM_comes_277 rfl (lv_at hl 3 rfl) ?_
            refine va_get (D := (dC, dI)) (ci := 1) (v := .ref (b 5)) (C := "GroupRowsModel") (T := FM) (N := 11) hx hb hta inM hown hK hP 0 rfl rfl 8 (by decide) (hta _ w288) (fun _ h9 => h9) rfl dM_comes_278 ?_
            refine lv_bipush (v := 8) hx hb dM_comes_281 (by decide) ?_
            refine lv_iload_n hx hb dM_comes_283 rfl (lv_at hl 2 rfl) ?_
            refine lv_imul hx hb dM_comes_284 ?_
            refine gi_as (y := nI (8 * ps)) (gi_8mul _) ?_
            refine lv_iload hx hb dM_comes_285 (lv_at hl 1 rfl) ?_
            refine lv_iadd hx hb dM_comes_287 ?_
            refine gi_as (y := nI ((8 * ps) + j)) (nI_add _ _) ?_
            refine lv_lload hx hb dM_comes_288 (lv_at hl 0 rfl) ?_
            refine lv_aload_n hx hb dM_comes_290 rfl (lv_at hl 3 rfl) ?_
            refine va_get (D := (dC, dI)) (ci := 1) (v := .ref (b 5)) (C := "GroupRowsModel") (T := FM) (N := 11) hx hb hta inM hown hK hP 0 rfl rfl 8 (by decide) (hta _ w288) (fun _ h9 => h9) rfl dM_comes_291 ?_
            refine lv_bipush (v := 8) hx hb dM_comes_294 (by decide) ?_
            refine lv_iload_n hx hb dM_comes_296 rfl (lv_at hl 2 rfl) ?_
            refine lv_imul hx hb dM_comes_297 ?_
            refine gi_as (y := nI (8 * ps)) (gi_8mul _) ?_
            refine lv_iload hx hb dM_comes_298 (lv_at hl 1 rfl) ?_
            refine lv_iadd hx hb dM_comes_300 ?_
            refine gi_as (y := nI ((8 * ps) + j)) (nI_add _ _) ?_
            refine gi_lald hx hb hK hP 5 4 rfl rfl (k := ((8 * ps) + j)) (by omega) (by decide) dM_comes_301 ?_
            have j2 : W p l e (headSpec (Cond.code yM_comes bM_comes 7 (some .boolean) :: wAll) { frames := 2, cells := 0, slots := 0, locals := 96 }).room s m ([.ref (b 0), .int nn] : List Value).toArray below meth c H locs 0 0 (MQ below (va_Qi (fun (r9 : Int32) (_ : Unit) => r9 = (if (takeT wn fk fa nn.toInt64 T).2 = true then 1 else 0)) (fun (_ : Unit) (t9 : State) => atM dC dI A b d cd wn mn fk fa (takeT wn fk fa nn.toInt64 T).1 t9) A) ([.ref (b 0), .int nn] : List Value).toArray s 0 0 A) (F0 m 323 ls [.long (if (upTo (fun m x => if x < fa m then fa m else x) (8 * ps) gr1 j) (8 * ps + j) < fa j then fa j else (upTo (fun m x => if x < fa m then fa m else x) (8 * ps) gr1 j) (8 * ps + j)),.int (nI ((8 * ps) + j)),.ref (b 5)]) := by
              refine gi_last hx hb hK hP hD hS 5 4 rfl rfl (k := ((8 * ps) + j)) (by omega) (by decide) dM_comes_323 (fun H locs hP hD hS => ?_)
              have hP : va_P (dC, dI) classes (wM b d cd (nI wn) (nI mn) (nI n1) ks1 (vp_updL ct1 ps (ct1 ps + nn.toInt64)) (vp_updL (upTo (fun m x => x + nn.toInt64 * fa m) (8 * ps) sm1 j) ((8 * ps) + j) (((upTo (fun m x => x + nn.toInt64 * fa m) (8 * ps) sm1 j) ((8 * ps) + j)) + ((nn.toInt64) * (fa j)))) (vp_updL (upTo (fun m x => if fa m < x then fa m else x) (8 * ps) le1 j) ((8 * ps) + j) (if fa j < (upTo (fun m x => if fa m < x then fa m else x) (8 * ps) le1 j) (8 * ps + j) then fa j else (upTo (fun m x => if fa m < x then fa m else x) (8 * ps) le1 j) (8 * ps + j))) (vp_updL (upTo (fun m x => if x < fa m then fa m else x) (8 * ps) gr1 j) ((8 * ps) + j) (if (upTo (fun m x => if x < fa m then fa m else x) (8 * ps) gr1 j) (8 * ps + j) < fa j then fa j else (upTo (fun m x => if x < fa m then fa m else x) (8 * ps) gr1 j) (8 * ps + j))) fk fa) H := hP
              have hD : va_D A (wM b d cd (nI wn) (nI mn) (nI n1) ks1 (vp_updL ct1 ps (ct1 ps + nn.toInt64)) (vp_updL (upTo (fun m x => x + nn.toInt64 * fa m) (8 * ps) sm1 j) ((8 * ps) + j) (((upTo (fun m x => x + nn.toInt64 * fa m) (8 * ps) sm1 j) ((8 * ps) + j)) + ((nn.toInt64) * (fa j)))) (vp_updL (upTo (fun m x => if fa m < x then fa m else x) (8 * ps) le1 j) ((8 * ps) + j) (if fa j < (upTo (fun m x => if fa m < x then fa m else x) (8 * ps) le1 j) (8 * ps + j) then fa j else (upTo (fun m x => if fa m < x then fa m else x) (8 * ps) le1 j) (8 * ps + j))) (vp_updL (upTo (fun m x => if x < fa m then fa m else x) (8 * ps) gr1 j) ((8 * ps) + j) (if (upTo (fun m x => if x < fa m then fa m else x) (8 * ps) gr1 j) (8 * ps + j) < fa j then fa j else (upTo (fun m x => if x < fa m then fa m else x) (8 * ps) gr1 j) (8 * ps + j))) fk fa) := hD
              refine lv_iinc (v := (nI (j + 1))) (lv' := [(4, .int (nI (j + 1))), (5, .long (fa j)), (2, .int (nI ps)), (0, .ref (b 0)), (1, .int nn)]) hx hb dM_comes_324 hl (k := 1) rfl (nI_1 _) (by decide) rfl (fun ls hl => ?_)
              refine lv_goto (tgt := 192) hx hb dM_comes_327 (by decide) ?_
              have hl := lv_sub hl [0, 2, 3, 4] rfl
              have hl : lv_has ls 7 [(4, .int (nI (j + 1))), (2, .int (nI ps)), (0, .ref (b 0)), (1, .int nn)] := hl
              exact ih (j + 1) (by omega) H locs hP hD hS ls hl
            refine W.lcmp (x := (fa j)) (y := ((upTo (fun m x => if x < fa m then fa m else x) (8 * ps) gr1 j) ((8 * ps) + j))) hx hb dM_comes_302 ?_
            refine lv_if_le (tgt := 311) hx hb dM_comes_303 (by decide) (fun h3 => ?_) (fun h3 => ?_)
            · skip
              refine lv_aload_n hx hb dM_comes_311 rfl (lv_at hl 3 rfl) ?_
              refine va_get (D := (dC, dI)) (ci := 1) (v := .ref (b 5)) (C := "GroupRowsModel") (T := FM) (N := 11) hx hb hta inM hown hK hP 0 rfl rfl 8 (by decide) (hta _ w288) (fun _ h9 => h9) rfl dM_comes_312 ?_
              refine lv_bipush (v := 8) hx hb dM_comes_315 (by decide) ?_
              refine lv_iload_n hx hb dM_comes_317 rfl (lv_at hl 2 rfl) ?_
              refine lv_imul hx hb dM_comes_318 ?_
              refine gi_as (y := nI (8 * ps)) (gi_8mul _) ?_
              refine lv_iload hx hb dM_comes_319 (lv_at hl 1 rfl) ?_
              refine lv_iadd hx hb dM_comes_321 ?_
              refine gi_as (y := nI ((8 * ps) + j)) (nI_add _ _) ?_
              refine gi_lald hx hb hK hP 5 4 rfl rfl (k := ((8 * ps) + j)) (by omega) (by decide) dM_comes_322 ?_
              refine gi_asl (y := (if (upTo (fun m x => if x < fa m then fa m else x) (8 * ps) gr1 j) (8 * ps + j) < fa j then fa j else (upTo (fun m x => if x < fa m then fa m else x) (8 * ps) gr1 j) (8 * ps + j))) ((if_neg (lg_le_not_lt ((lg_cmp_le _ _).mp h3))).symm) ?_
              exact j2
            · skip
              refine lv_lload hx hb dM_comes_306 (lv_at hl 0 rfl) ?_
              refine lv_goto (tgt := 323) hx hb dM_comes_308 (by decide) ?_
              refine gi_asl (y := (if (upTo (fun m x => if x < fa m then fa m else x) (8 * ps) gr1 j) (8 * ps + j) < fa j then fa j else (upTo (fun m x => if x < fa m then fa m else x) (8 * ps) gr1 j) (8 * ps + j))) ((if_pos (Int64.not_le.mp (fun z => h3 ((lg_cmp_le _ _).mpr z)))).symm) ?_
              exact j2
          refine W.lcmp (x := (fa j)) (y := ((upTo (fun m x => if fa m < x then fa m else x) (8 * ps) le1 j) ((8 * ps) + j))) hx hb dM_comes_255 ?_
          refine lv_if_ge (tgt := 264) hx hb dM_comes_256 (by decide) (fun h2 => ?_) (fun h2 => ?_)
          · skip
            refine lv_aload_n hx hb dM_comes_264 rfl (lv_at hl 3 rfl) ?_
            refine va_get (D := (dC, dI)) (ci := 1) (v := .ref (b 4)) (C := "GroupRowsModel") (T := FM) (N := 11) hx hb hta inM hown hK hP 0 rfl rfl 7 (by decide) (hta _ w287) (fun _ h9 => h9) rfl dM_comes_265 ?_
            refine lv_bipush (v := 8) hx hb dM_comes_268 (by decide) ?_
            refine lv_iload_n hx hb dM_comes_270 rfl (lv_at hl 2 rfl) ?_
            refine lv_imul hx hb dM_comes_271 ?_
            refine gi_as (y := nI (8 * ps)) (gi_8mul _) ?_
            refine lv_iload hx hb dM_comes_272 (lv_at hl 1 rfl) ?_
            refine lv_iadd hx hb dM_comes_274 ?_
            refine gi_as (y := nI ((8 * ps) + j)) (nI_add _ _) ?_
            refine gi_lald hx hb hK hP 4 3 rfl rfl (k := ((8 * ps) + j)) (by omega) (by decide) dM_comes_275 ?_
            refine gi_asl (y := (if fa j < (upTo (fun m x => if fa m < x then fa m else x) (8 * ps) le1 j) (8 * ps + j) then fa j else (upTo (fun m x => if fa m < x then fa m else x) (8 * ps) le1 j) (8 * ps + j))) ((if_neg (lg_le_not_lt ((lg_cmp_ge _ _).mp h2))).symm) ?_
            exact j1
          · skip
            refine lv_lload hx hb dM_comes_259 (lv_at hl 0 rfl) ?_
            refine lv_goto (tgt := 276) hx hb dM_comes_261 (by decide) ?_
            refine gi_asl (y := (if fa j < (upTo (fun m x => if fa m < x then fa m else x) (8 * ps) le1 j) (8 * ps + j) then fa j else (upTo (fun m x => if fa m < x then fa m else x) (8 * ps) le1 j) (8 * ps + j))) ((if_pos (Int64.not_le.mp (fun z => h2 ((lg_cmp_ge _ _).mpr z)))).symm) ?_
            exact j1
    have hl := lv_sub hl [0, 1, 2, 3] rfl
    have hl : lv_has ls 7 [(4, .int (nI 0)), (2, .int (nI ps)), (0, .ref (b 0)), (1, .int nn)] := hl
    exact loop mn 0 (by omega) H locs hP hD hS ls hl
  refine lv_aload_n hx hb dM_comes_0 rfl (lv_at hl 0 rfl) ?_
  refine gi_callR (v := .int (nI ps)) (W.runV (As := []) (rest := []) ⟨hx, hb, hml, hown, hta⟩ (c_before l dC dI b d wn T.1 cd (nI mn) ks2 ct2 sm2 le2 gr2 fk fa ps hwn hn hlow) (cwV 0 hta (gV w339 w341 sM_before w2 w342) rfl rfl rfl (by decide +kernel) ⟨Nat.le_of_ble_eq_true rfl, Nat.le_of_ble_eq_true rfl⟩) ⟨gb_R, va_recv hK hP (ci := 1) (q0 := 0) rfl rfl, fun U hU hW => ⟨rfl, by rw [hU]; exact hP, va_K.moved hW.alike hK⟩⟩ rfl rfl hl.1 rfl (lv_room (Nat.le_of_ble_eq_true rfl)) dM_comes_1 ⟨Nat.le_of_ble_eq_true rfl, Nat.le_of_ble_eq_true rfl⟩) ?_
  refine lv_istore_n (lv' := [(2, .int (nI ps)), (0, .ref (b 0)), (1, .int nn)]) hx hb dM_comes_4 rfl hl (by decide) rfl (fun ls hl => ?_)
  refine lv_iload_n hx hb dM_comes_5 rfl (lv_at hl 0 rfl) ?_
  refine lv_aload_n hx hb dM_comes_6 rfl (lv_at hl 1 rfl) ?_
  refine va_get (D := (dC, dI)) (ci := 1) (v := .int (nI T.1)) (C := "GroupRowsModel") (T := FM) (N := 11) hx hb hta inM hown hK hP 0 rfl rfl 3 (by decide) (hta _ w283) (fun _ h9 => h9) rfl dM_comes_7 ?_
  refine lv_icmp_ge (tgt := 25) hx hb dM_comes_10 (by decide) (fun h1 => ?_) (fun h1 => ?_)
  · skip
    have h1 : T.1 ≤ ps := (nI_leI (by omega) (by omega)).mp h1
    have hc2 : ¬ (lowP wn T.1 T.2.1 fk < T.1 ∧ lx (T.2.1 (lowP wn T.1 T.2.1 fk)) fk wn 0 = 0) := by rw [← eps]; exact fun q => absurd q.1 (by omega)
    refine lv_iconst (v := 0) hx hb dM_comes_25 (by decide) ?_
    refine lv_istore_n (lv' := [(3, .int 0), (2, .int (nI ps)), (0, .ref (b 0)), (1, .int nn)]) hx hb dM_comes_26 rfl hl (by decide) rfl (fun ls hl => ?_)
    refine lv_iload_n hx hb dM_comes_27 rfl (lv_at hl 0 rfl) ?_
    refine lv_if_ne (tgt := 43) hx hb dM_comes_28 (by decide) (fun h5 => ?_) (fun h5 => ?_)
    · skip
      exact absurd rfl h5
    · skip
      refine lv_aload_n hx hb dM_comes_31 rfl (lv_at hl 2 rfl) ?_
      refine va_get (D := (dC, dI)) (ci := 1) (v := .int (nI T.1)) (C := "GroupRowsModel") (T := FM) (N := 11) hx hb hta inM hown hK hP 0 rfl rfl 3 (by decide) (hta _ w283) (fun _ h9 => h9) rfl dM_comes_32 ?_
      refine lv_sipush (v := 1000) hx hb dM_comes_35 (by decide) ?_
      refine lv_icmp_ne (tgt := 43) hx hb dM_comes_38 (by decide) (fun h6 => ?_) (fun h6 => ?_)
      · skip
        have h6 : T.1 < 1000 := by
          rcases Nat.lt_or_ge T.1 1000 with z | z
          · exact z
          · exact absurd (by rw [show T.1 = 1000 by omega]; rfl) h6
        have hne : ps < T.1 → ¬ keq wn (T.2.1 ps) fk := fun q1 q2 => hc2 (by rw [← eps]; exact ⟨q1, lx_eq.mpr q2⟩)
        have e9 := takeT_new (fa := fa) (nn := nn.toInt64) hc2 h6
        rw [← eps] at e9
        refine lv_iload_n hx hb dM_comes_43 rfl (lv_at hl 0 rfl) ?_
        refine lv_if_ne (tgt := 178) hx hb dM_comes_44 (by decide) (fun h7 => ?_) (fun h7 => ?_)
        · skip
          exact absurd rfl h7
        · skip
          refine lv_aload_n hx hb dM_comes_47 rfl (lv_at hl 2 rfl) ?_
          refine va_get (D := (dC, dI)) (ci := 1) (v := .int (nI T.1)) (C := "GroupRowsModel") (T := FM) (N := 11) hx hb hta inM hown hK hP 0 rfl rfl 3 (by decide) (hta _ w283) (fun _ h9 => h9) rfl dM_comes_48 ?_
          refine lv_istore (lv' := [(4, .int (nI T.1)), (3, .int 0), (2, .int (nI ps)), (0, .ref (b 0)), (1, .int nn)]) hx hb dM_comes_51 hl (by decide) rfl (fun ls hl => ?_)
          have shl : ∀ (kk kv : Nat) (ks1 : Nat → Int32) (ct1 sm1 le1 gr1 : Nat → Int64), ps + kk = kv → kv ≤ T.1 → shf ks2 ks1 T.1 kv → shc ct2 ct1 T.1 kv → shf sm2 sm1 T.1 kv → shf le2 le1 T.1 kv → shf gr2 gr1 T.1 kv → ∀ (H : Heap) (locs : List Loc), va_P (dC, dI) classes (wM b d cd (nI wn) (nI mn) (nI T.1) ks1 ct1 sm1 le1 gr1 fk fa) H → va_D A (wM b d cd (nI wn) (nI mn) (nI T.1) ks1 ct1 sm1 le1 gr1 fk fa) → va_S A s.heap H locs → ∀ (ls : Array Slot), lv_has ls 7 [(4, .int (nI kv)), (2, .int (nI ps)), (0, .ref (b 0)), (1, .int nn)] → W p l e (headSpec (Cond.code yM_comes bM_comes 7 (some .boolean) :: wAll) { frames := 2, cells := 0, slots := 0, locals := 96 }).room s m ([.ref (b 0), .int nn] : List Value).toArray below meth c H locs 0 0 (MQ below (va_Qi (fun (r9 : Int32) (_ : Unit) => r9 = (if (takeT wn fk fa nn.toInt64 T).2 = true then 1 else 0)) (fun (_ : Unit) (t9 : State) => atM dC dI A b d cd wn mn fk fa (takeT wn fk fa nn.toInt64 T).1 t9) A) ([.ref (b 0), .int nn] : List Value).toArray s 0 0 A) (F0 m 53 ls []) := by
            intro kk
            induction kk with
            | zero =>
              intro kv ks1 ct1 sm1 le1 gr1 hkv hkn s1 s2 s3 s4 s5 H locs hP hD hS ls hl
              refine lv_iload hx hb dM_comes_53 (lv_at hl 0 rfl) ?_
              refine lv_iload_n hx hb dM_comes_55 rfl (lv_at hl 1 rfl) ?_
              refine lv_icmp_le (tgt := 75) hx hb dM_comes_56 (by decide) (fun h8 => ?_) (fun h8 => ?_)
              · skip
                have hkv : ps = kv := by omega
                subst hkv
                refine lv_aload_n hx hb dM_comes_75 rfl (lv_at hl 2 rfl) ?_
                refine lv_dup hx hb dM_comes_76 rfl ?_
                refine va_get (D := (dC, dI)) (ci := 1) (v := .int (nI T.1)) (C := "GroupRowsModel") (T := FM) (N := 11) hx hb hta inM hown hK hP 0 rfl rfl 3 (by decide) (hta _ w283) (fun _ h9 => h9) rfl dM_comes_77 ?_
                refine lv_iconst (v := 1) hx hb dM_comes_80 (by decide) ?_
                refine lv_iadd hx hb dM_comes_81 ?_
                refine gi_as (y := nI (T.1 + 1)) (nI_1 _) ?_
                refine va_put (D := (dC, dI)) (ci := 1) (v := .int (nI (T.1 + 1))) (ty := .int) (C := "GroupRowsModel") (T := FM) (N := 11) hx hb hta inM tM tMok nM hown hK hP hD hS 0 rfl rfl 3 (by decide) (hta _ w283) (fun _ h9 => h9) rfl (by decide +kernel) rfl rfl (Nat.le_of_ble_eq_true rfl) dM_comes_82 (fun H locs hP hD hS => ?_)
                have hP : va_P (dC, dI) classes (wM b d cd (nI wn) (nI mn) (nI (T.1 + 1)) ks1 ct1 sm1 le1 gr1 fk fa) H := hP
                have hD : va_D A (wM b d cd (nI wn) (nI mn) (nI (T.1 + 1)) ks1 ct1 sm1 le1 gr1 fk fa) := hD
                refine lv_aload_n hx hb dM_comes_85 rfl (lv_at hl 2 rfl) ?_
                refine va_get (D := (dC, dI)) (ci := 1) (v := .ref (b 2)) (C := "GroupRowsModel") (T := FM) (N := 11) hx hb hta inM hown hK hP 0 rfl rfl 5 (by decide) (hta _ w285) (fun _ h9 => h9) rfl dM_comes_86 ?_
                refine lv_iload_n hx hb dM_comes_89 rfl (lv_at hl 1 rfl) ?_
                refine lv_lconst (v := 0) hx hb dM_comes_90 (by decide) ?_
                refine gi_last hx hb hK hP hD hS 2 1 rfl rfl (k := ps) (by omega) (by decide) dM_comes_91 (fun H locs hP hD hS => ?_)
                have hP : va_P (dC, dI) classes (wM b d cd (nI wn) (nI mn) (nI (T.1 + 1)) ks1 (vp_updL ct1 ps 0) sm1 le1 gr1 fk fa) H := hP
                have hD : va_D A (wM b d cd (nI wn) (nI mn) (nI (T.1 + 1)) ks1 (vp_updL ct1 ps 0) sm1 le1 gr1 fk fa) := hD
                refine lv_iconst (v := 0) hx hb dM_comes_92 (by decide) ?_
                refine gi_as (y := nI 0) (nI_0.symm) ?_
                refine lv_istore (lv' := [(4, .int (nI 0)), (2, .int (nI ps)), (0, .ref (b 0)), (1, .int nn)]) hx hb dM_comes_93 hl (by decide) rfl (fun ls hl => ?_)
                have ini : ∀ (kk j : Nat), j + kk = 8 → ∀ (H : Heap) (locs : List Loc), va_P (dC, dI) classes (wM b d cd (nI wn) (nI mn) (nI (T.1 + 1)) (upToI (fun m _ => fk m) (8 * ps) ks1 j) (vp_updL ct1 ps 0) (upTo (fun _ _ => 0) (8 * ps) sm1 j) (upTo (fun m _ => fa m) (8 * ps) le1 j) (upTo (fun m _ => fa m) (8 * ps) gr1 j) fk fa) H → va_D A (wM b d cd (nI wn) (nI mn) (nI (T.1 + 1)) (upToI (fun m _ => fk m) (8 * ps) ks1 j) (vp_updL ct1 ps 0) (upTo (fun _ _ => 0) (8 * ps) sm1 j) (upTo (fun m _ => fa m) (8 * ps) le1 j) (upTo (fun m _ => fa m) (8 * ps) gr1 j) fk fa) → va_S A s.heap H locs → ∀ (ls : Array Slot), lv_has ls 7 [(4, .int (nI j)), (2, .int (nI ps)), (0, .ref (b 0)), (1, .int nn)] → W p l e (headSpec (Cond.code yM_comes bM_comes 7 (some .boolean) :: wAll) { frames := 2, cells := 0, slots := 0, locals := 96 }).room s m ([.ref (b 0), .int nn] : List Value).toArray below meth c H locs 0 0 (MQ below (va_Qi (fun (r9 : Int32) (_ : Unit) => r9 = (if (takeT wn fk fa nn.toInt64 T).2 = true then 1 else 0)) (fun (_ : Unit) (t9 : State) => atM dC dI A b d cd wn mn fk fa (takeT wn fk fa nn.toInt64 T).1 t9) A) ([.ref (b 0), .int nn] : List Value).toArray s 0 0 A) (F0 m 95 ls []) := by
                  intro kk
                  induction kk with
                  | zero =>
                    intro j hj H locs hP hD hS ls hl
                    refine lv_iload hx hb dM_comes_95 (lv_at hl 0 rfl) ?_
                    refine lv_bipush (v := 8) hx hb dM_comes_97 (by decide) ?_
                    refine gi_as (y := nI 8) (rfl) ?_
                    refine lv_icmp_ge (tgt := 178) hx hb dM_comes_99 (by decide) (fun h9 => ?_) (fun h9 => ?_)
                    · skip
                      have hj : 8 = j := by omega
                      subst hj
                      have hl := lv_sub hl [1, 2, 3] rfl
                      have hl : lv_has ls 7 [(2, .int (nI ps)), (0, .ref (b 0)), (1, .int nn)] := hl
                      exact tail (T.1 + 1) _ _ _ _ _ (by omega) (by rw [e9]; rfl) (by rw [e9]) (by rw [e9]; exact repM_new hrep h6 hlow2 hne s1 s2 s3 s4 s5) H locs hP hD hS ls hl
                    · skip
                      exact absurd (nI_le (by omega) (by omega)) h9
                  | succ kk ih2 =>
                    intro j hj H locs hP hD hS ls hl
                    refine lv_iload hx hb dM_comes_95 (lv_at hl 0 rfl) ?_
                    refine lv_bipush (v := 8) hx hb dM_comes_97 (by decide) ?_
                    refine gi_as (y := nI 8) (rfl) ?_
                    refine lv_icmp_ge (tgt := 178) hx hb dM_comes_99 (by decide) (fun h9 => ?_) (fun h9 => ?_)
                    · skip
                      exact absurd h9 (nI_ge (a := j) (by omega) (by omega))
                    · skip
                      refine lv_aload_n hx hb dM_comes_102 rfl (lv_at hl 2 rfl) ?_
                      refine va_get (D := (dC, dI)) (ci := 1) (v := .ref (b 1)) (C := "GroupRowsModel") (T := FM) (N := 11) hx hb hta inM hown hK hP 0 rfl rfl 4 (by decide) (hta _ w284) (fun _ h9 => h9) rfl dM_comes_103 ?_
                      refine lv_bipush (v := 8) hx hb dM_comes_106 (by decide) ?_
                      refine lv_iload_n hx hb dM_comes_108 rfl (lv_at hl 1 rfl) ?_
                      refine lv_imul hx hb dM_comes_109 ?_
                      refine gi_as (y := nI (8 * ps)) (gi_8mul _) ?_
                      refine lv_iload hx hb dM_comes_110 (lv_at hl 0 rfl) ?_
                      refine lv_iadd hx hb dM_comes_112 ?_
                      refine gi_as (y := nI ((8 * ps) + j)) (nI_add _ _) ?_
                      refine lv_aload_n hx hb dM_comes_113 rfl (lv_at hl 2 rfl) ?_
                      refine va_get (D := (dC, dI)) (ci := 1) (v := .ref (b 6)) (C := "GroupRowsModel") (T := FM) (N := 11) hx hb hta inM hown hK hP 0 rfl rfl 9 (by decide) (hta _ w289) (fun _ h9 => h9) rfl dM_comes_114 ?_
                      refine lv_iload hx hb dM_comes_117 (lv_at hl 0 rfl) ?_
                      refine gi_iald hx hb hK hP 6 5 rfl rfl (k := j) (by omega) (by decide) dM_comes_119 ?_
                      refine gi_iast hx hb hK hP hD hS 1 0 rfl rfl (k := ((8 * ps) + j)) (by omega) (by decide) dM_comes_120 (fun H locs hP hD hS => ?_)
                      have hP : va_P (dC, dI) classes (wM b d cd (nI wn) (nI mn) (nI (T.1 + 1)) (upd (upToI (fun m _ => fk m) (8 * ps) ks1 j) ((8 * ps) + j) (fk j)) (vp_updL ct1 ps 0) (upTo (fun _ _ => 0) (8 * ps) sm1 j) (upTo (fun m _ => fa m) (8 * ps) le1 j) (upTo (fun m _ => fa m) (8 * ps) gr1 j) fk fa) H := hP
                      have hD : va_D A (wM b d cd (nI wn) (nI mn) (nI (T.1 + 1)) (upd (upToI (fun m _ => fk m) (8 * ps) ks1 j) ((8 * ps) + j) (fk j)) (vp_updL ct1 ps 0) (upTo (fun _ _ => 0) (8 * ps) sm1 j) (upTo (fun m _ => fa m) (8 * ps) le1 j) (upTo (fun m _ => fa m) (8 * ps) gr1 j) fk fa) := hD
                      refine lv_aload_n hx hb dM_comes_121 rfl (lv_at hl 2 rfl) ?_
                      refine va_get (D := (dC, dI)) (ci := 1) (v := .ref (b 3)) (C := "GroupRowsModel") (T := FM) (N := 11) hx hb hta inM hown hK hP 0 rfl rfl 6 (by decide) (hta _ w286) (fun _ h9 => h9) rfl dM_comes_122 ?_
                      refine lv_bipush (v := 8) hx hb dM_comes_125 (by decide) ?_
                      refine lv_iload_n hx hb dM_comes_127 rfl (lv_at hl 1 rfl) ?_
                      refine lv_imul hx hb dM_comes_128 ?_
                      refine gi_as (y := nI (8 * ps)) (gi_8mul _) ?_
                      refine lv_iload hx hb dM_comes_129 (lv_at hl 0 rfl) ?_
                      refine lv_iadd hx hb dM_comes_131 ?_
                      refine gi_as (y := nI ((8 * ps) + j)) (nI_add _ _) ?_
                      refine lv_lconst (v := 0) hx hb dM_comes_132 (by decide) ?_
                      refine gi_last hx hb hK hP hD hS 3 2 rfl rfl (k := ((8 * ps) + j)) (by omega) (by decide) dM_comes_133 (fun H locs hP hD hS => ?_)
                      have hP : va_P (dC, dI) classes (wM b d cd (nI wn) (nI mn) (nI (T.1 + 1)) (upd (upToI (fun m _ => fk m) (8 * ps) ks1 j) ((8 * ps) + j) (fk j)) (vp_updL ct1 ps 0) (vp_updL (upTo (fun _ _ => 0) (8 * ps) sm1 j) ((8 * ps) + j) 0) (upTo (fun m _ => fa m) (8 * ps) le1 j) (upTo (fun m _ => fa m) (8 * ps) gr1 j) fk fa) H := hP
                      have hD : va_D A (wM b d cd (nI wn) (nI mn) (nI (T.1 + 1)) (upd (upToI (fun m _ => fk m) (8 * ps) ks1 j) ((8 * ps) + j) (fk j)) (vp_updL ct1 ps 0) (vp_updL (upTo (fun _ _ => 0) (8 * ps) sm1 j) ((8 * ps) + j) 0) (upTo (fun m _ => fa m) (8 * ps) le1 j) (upTo (fun m _ => fa m) (8 * ps) gr1 j) fk fa) := hD
                      refine lv_aload_n hx hb dM_comes_134 rfl (lv_at hl 2 rfl) ?_
                      refine va_get (D := (dC, dI)) (ci := 1) (v := .ref (b 4)) (C := "GroupRowsModel") (T := FM) (N := 11) hx hb hta inM hown hK hP 0 rfl rfl 7 (by decide) (hta _ w287) (fun _ h9 => h9) rfl dM_comes_135 ?_
                      refine lv_bipush (v := 8) hx hb dM_comes_138 (by decide) ?_
                      refine lv_iload_n hx hb dM_comes_140 rfl (lv_at hl 1 rfl) ?_
                      refine lv_imul hx hb dM_comes_141 ?_
                      refine gi_as (y := nI (8 * ps)) (gi_8mul _) ?_
                      refine lv_iload hx hb dM_comes_142 (lv_at hl 0 rfl) ?_
                      refine lv_iadd hx hb dM_comes_144 ?_
                      refine gi_as (y := nI ((8 * ps) + j)) (nI_add _ _) ?_
                      refine lv_aload_n hx hb dM_comes_145 rfl (lv_at hl 2 rfl) ?_
                      refine va_get (D := (dC, dI)) (ci := 1) (v := .ref (b 7)) (C := "GroupRowsModel") (T := FM) (N := 11) hx hb hta inM hown hK hP 0 rfl rfl 10 (by decide) (hta _ w290) (fun _ h9 => h9) rfl dM_comes_146 ?_
                      refine lv_iload hx hb dM_comes_149 (lv_at hl 0 rfl) ?_
                      refine gi_lald hx hb hK hP 7 6 rfl rfl (k := j) (by omega) (by decide) dM_comes_151 ?_
                      refine gi_last hx hb hK hP hD hS 4 3 rfl rfl (k := ((8 * ps) + j)) (by omega) (by decide) dM_comes_152 (fun H locs hP hD hS => ?_)
                      have hP : va_P (dC, dI) classes (wM b d cd (nI wn) (nI mn) (nI (T.1 + 1)) (upd (upToI (fun m _ => fk m) (8 * ps) ks1 j) ((8 * ps) + j) (fk j)) (vp_updL ct1 ps 0) (vp_updL (upTo (fun _ _ => 0) (8 * ps) sm1 j) ((8 * ps) + j) 0) (vp_updL (upTo (fun m _ => fa m) (8 * ps) le1 j) ((8 * ps) + j) (fa j)) (upTo (fun m _ => fa m) (8 * ps) gr1 j) fk fa) H := hP
                      have hD : va_D A (wM b d cd (nI wn) (nI mn) (nI (T.1 + 1)) (upd (upToI (fun m _ => fk m) (8 * ps) ks1 j) ((8 * ps) + j) (fk j)) (vp_updL ct1 ps 0) (vp_updL (upTo (fun _ _ => 0) (8 * ps) sm1 j) ((8 * ps) + j) 0) (vp_updL (upTo (fun m _ => fa m) (8 * ps) le1 j) ((8 * ps) + j) (fa j)) (upTo (fun m _ => fa m) (8 * ps) gr1 j) fk fa) := hD
                      refine lv_aload_n hx hb dM_comes_153 rfl (lv_at hl 2 rfl) ?_
                      refine va_get (D := (dC, dI)) (ci := 1) (v := .ref (b 5)) (C := "GroupRowsModel") (T := FM) (N := 11) hx hb hta inM hown hK hP 0 rfl rfl 8 (by decide) (hta _ w288) (fun _ h9 => h9) rfl dM_comes_154 ?_
                      refine lv_bipush (v := 8) hx hb dM_comes_157 (by decide) ?_
                      refine lv_iload_n hx hb dM_comes_159 rfl (lv_at hl 1 rfl) ?_
                      refine lv_imul hx hb dM_comes_160 ?_
                      refine gi_as (y := nI (8 * ps)) (gi_8mul _) ?_
                      refine lv_iload hx hb dM_comes_161 (lv_at hl 0 rfl) ?_
                      refine lv_iadd hx hb dM_comes_163 ?_
                      refine gi_as (y := nI ((8 * ps) + j)) (nI_add _ _) ?_
                      refine lv_aload_n hx hb dM_comes_164 rfl (lv_at hl 2 rfl) ?_
                      refine va_get (D := (dC, dI)) (ci := 1) (v := .ref (b 7)) (C := "GroupRowsModel") (T := FM) (N := 11) hx hb hta inM hown hK hP 0 rfl rfl 10 (by decide) (hta _ w290) (fun _ h9 => h9) rfl dM_comes_165 ?_
                      refine lv_iload hx hb dM_comes_168 (lv_at hl 0 rfl) ?_
                      refine gi_lald hx hb hK hP 7 6 rfl rfl (k := j) (by omega) (by decide) dM_comes_170 ?_
                      refine gi_last hx hb hK hP hD hS 5 4 rfl rfl (k := ((8 * ps) + j)) (by omega) (by decide) dM_comes_171 (fun H locs hP hD hS => ?_)
                      have hP : va_P (dC, dI) classes (wM b d cd (nI wn) (nI mn) (nI (T.1 + 1)) (upd (upToI (fun m _ => fk m) (8 * ps) ks1 j) ((8 * ps) + j) (fk j)) (vp_updL ct1 ps 0) (vp_updL (upTo (fun _ _ => 0) (8 * ps) sm1 j) ((8 * ps) + j) 0) (vp_updL (upTo (fun m _ => fa m) (8 * ps) le1 j) ((8 * ps) + j) (fa j)) (vp_updL (upTo (fun m _ => fa m) (8 * ps) gr1 j) ((8 * ps) + j) (fa j)) fk fa) H := hP
                      have hD : va_D A (wM b d cd (nI wn) (nI mn) (nI (T.1 + 1)) (upd (upToI (fun m _ => fk m) (8 * ps) ks1 j) ((8 * ps) + j) (fk j)) (vp_updL ct1 ps 0) (vp_updL (upTo (fun _ _ => 0) (8 * ps) sm1 j) ((8 * ps) + j) 0) (vp_updL (upTo (fun m _ => fa m) (8 * ps) le1 j) ((8 * ps) + j) (fa j)) (vp_updL (upTo (fun m _ => fa m) (8 * ps) gr1 j) ((8 * ps) + j) (fa j)) fk fa) := hD
                      refine lv_iinc (v := (nI (j + 1))) (lv' := [(4, .int (nI (j + 1))), (2, .int (nI ps)), (0, .ref (b 0)), (1, .int nn)]) hx hb dM_comes_172 hl (k := 0) rfl (nI_1 _) (by decide) rfl (fun ls hl => ?_)
                      refine lv_goto (tgt := 95) hx hb dM_comes_175 (by decide) ?_
                      have hl := lv_sub hl [0, 1, 2, 3] rfl
                      have hl : lv_has ls 7 [(4, .int (nI (j + 1))), (2, .int (nI ps)), (0, .ref (b 0)), (1, .int nn)] := hl
                      exact ih2 (j + 1) (by omega) H locs hP hD hS ls hl
                have hl := lv_sub hl [0, 1, 2, 3] rfl
                have hl : lv_has ls 7 [(4, .int (nI 0)), (2, .int (nI ps)), (0, .ref (b 0)), (1, .int nn)] := hl
                exact ini 8 0 (by omega) H locs hP hD hS ls hl
              · skip
                exact absurd (nI_le (by omega) (by omega)) h8
            | succ kk ih =>
              intro kv ks1 ct1 sm1 le1 gr1 hkv hkn s1 s2 s3 s4 s5 H locs hP hD hS ls hl
              refine lv_iload hx hb dM_comes_53 (lv_at hl 0 rfl) ?_
              refine lv_iload_n hx hb dM_comes_55 rfl (lv_at hl 1 rfl) ?_
              refine lv_icmp_le (tgt := 75) hx hb dM_comes_56 (by decide) (fun h8 => ?_) (fun h8 => ?_)
              · skip
                exact absurd h8 (nI_ge (a := ps) (b := kv) (by omega) (by omega))
              · skip
                obtain ⟨k0, ek0⟩ : ∃ k0, kv = k0 + 1 := ⟨kv - 1, by omega⟩
                subst ek0
                refine lv_aload_n hx hb dM_comes_59 rfl (lv_at hl 2 rfl) ?_
                refine lv_iload hx hb dM_comes_60 (lv_at hl 0 rfl) ?_
                refine lv_iconst (v := 1) hx hb dM_comes_62 (by decide) ?_
                refine lv_isub hx hb dM_comes_63 ?_
                refine gi_as (y := nI k0) (nI_pred k0) ?_
                refine lv_iload hx hb dM_comes_64 (lv_at hl 0 rfl) ?_
                have hPc := hP
                have hDc := hD
                have hKc := hK
                have hFc := va_free (wc := (wM b d cd (nI wn) (nI mn) (nI T.1) ks1 ct1 sm1 le1 gr1 fk fa)) hD hS hA [0, 1, 2, 3, 4, 5, 6, 7] rfl
                refine va_callv (va_runV (As := [.int (nI k0), .int (nI (k0 + 1))]) (rest := []) ⟨hx, hb, hml, hown, hta⟩ (c_copy l dC dI b d cd (nI wn) (nI mn) (nI T.1) ks1 ct1 sm1 le1 gr1 fk fa k0 (k0 + 1) (by omega) (by omega) H.size) (cwV 2 hta (gV w347 w349 sM_copy w2 w350) rfl rfl rfl (by decide +kernel) ⟨Nat.le_of_ble_eq_true rfl, Nat.le_of_ble_eq_true rfl⟩) ⟨gb_W, va_recv hKc hPc (ci := 1) (q0 := 0) rfl rfl, fun U hU hW => ⟨rfl, by rw [hU], by rw [hU]; exact hPc, va_K.moved hW.alike hKc, hDc.weaken (fun _ _ _ _ => trivial)⟩⟩ rfl rfl hl.1 rfl (lv_room (Nat.le_of_ble_eq_true rfl)) dM_comes_66 ⟨Nat.le_of_ble_eq_true rfl, Nat.le_of_ble_eq_true rfl⟩) hS (fun q _ h => hFc q h) hFc (fun u t H1 locs ht hvm hw hB hz1 hk1 hS => ?_)
                obtain ⟨hP1, hK1, hD1⟩ := hB
                rw [ht] at hP1
                obtain ⟨hP, hD⟩ := va_join (wr := []) (w1 := (wM b d cd (nI wn) (nI mn) (nI T.1) (upToI (fun m _ => ks1 (8 * k0 + m)) (8 * (k0 + 1)) ks1 8) (vp_updL ct1 (k0 + 1) (ct1 k0)) (upTo (fun m _ => sm1 (8 * k0 + m)) (8 * (k0 + 1)) sm1 8) (upTo (fun m _ => le1 (8 * k0 + m)) (8 * (k0 + 1)) le1 8) (upTo (fun m _ => gr1 (8 * k0 + m)) (8 * (k0 + 1)) gr1 8) fk fa)) hP hD [0, 1, 2, 3, 4, 5, 6, 7] [] rfl rfl (by decide) (by decide) hk1 hFc hP1 hD1
                generalize H1 = H at hP hS ⊢
                have hP : va_P (dC, dI) classes (wM b d cd (nI wn) (nI mn) (nI T.1) (upToI (fun m _ => ks1 (8 * k0 + m)) (8 * (k0 + 1)) ks1 8) (vp_updL ct1 (k0 + 1) (ct1 k0)) (upTo (fun m _ => sm1 (8 * k0 + m)) (8 * (k0 + 1)) sm1 8) (upTo (fun m _ => le1 (8 * k0 + m)) (8 * (k0 + 1)) le1 8) (upTo (fun m _ => gr1 (8 * k0 + m)) (8 * (k0 + 1)) gr1 8) fk fa) H := hP
                have hD : va_D A (wM b d cd (nI wn) (nI mn) (nI T.1) (upToI (fun m _ => ks1 (8 * k0 + m)) (8 * (k0 + 1)) ks1 8) (vp_updL ct1 (k0 + 1) (ct1 k0)) (upTo (fun m _ => sm1 (8 * k0 + m)) (8 * (k0 + 1)) sm1 8) (upTo (fun m _ => le1 (8 * k0 + m)) (8 * (k0 + 1)) le1 8) (upTo (fun m _ => gr1 (8 * k0 + m)) (8 * (k0 + 1)) gr1 8) fk fa) := hD
                refine lv_iinc (v := (nI k0)) (lv' := [(4, .int (nI k0)), (2, .int (nI ps)), (0, .ref (b 0)), (1, .int nn)]) hx hb dM_comes_69 hl (k := 0) rfl (pk_m1 k0) (by decide) rfl (fun ls hl => ?_)
                refine lv_goto (tgt := 53) hx hb dM_comes_72 (by decide) ?_
                have hl := lv_sub hl [0, 1, 2, 3] rfl
                have hl : lv_has ls 7 [(4, .int (nI k0)), (2, .int (nI ps)), (0, .ref (b 0)), (1, .int nn)] := hl
                exact ih k0 _ _ _ _ _ (by omega) (by omega) (shf_I s1 hkn h6) (shc_L s2 hkn h6) (shf_L s3 hkn h6) (shf_L s4 hkn h6) (shf_L s5 hkn h6) H locs hP hD hS ls hl
          have hl := lv_sub hl [0, 2, 3, 4] rfl
          have hl : lv_has ls 7 [(4, .int (nI T.1)), (2, .int (nI ps)), (0, .ref (b 0)), (1, .int nn)] := hl
          exact shl (T.1 - ps) T.1 ks2 ct2 sm2 le2 gr2 (by omega) (Nat.le_refl _) (shf_0 _ _) (shc_0 _ _) (shf_0 _ _) (shf_0 _ _) (shf_0 _ _) s.heap [] hP hD hS ls hl
      · skip
        have h6 : ¬ T.1 < 1000 := fun q => by have := (nI_eq (a := T.1) (b := 1000) (by omega) (by decide)).mp h6; omega
        refine lv_iconst (v := 0) hx hb dM_comes_41 (by decide) ?_
        have e9 := takeT_full (fa := fa) (nn := nn.toInt64) hc2 h6
        exact W.zret (v := 0) hx hb hr rfl (fun t9 ht9 hW9 => ⟨⟨0, (), rfl, by rw [e9]; rfl, by rw [e9]; exact ⟨_, _, _, _, _, hrep, by rw [ht9]; exact hP, va_K.moved hW9.alike hK, hD⟩⟩, hS.F ht9⟩) hS.2.2 dM_comes_42
  · skip
    have h1 : ps < T.1 := by
      rcases Nat.lt_or_ge ps T.1 with z | z
      · exact z
      · exact absurd (nI_le z (by omega)) h1
    refine lv_aload_n hx hb dM_comes_13 rfl (lv_at hl 1 rfl) ?_
    refine lv_iload_n hx hb dM_comes_14 rfl (lv_at hl 0 rfl) ?_
    refine gi_callR (v := .int (lx fk (fun i => ks2 (8 * ps + i)) wn 0)) (W.runV (As := [.int (nI ps)]) (rest := []) ⟨hx, hb, hml, hown, hta⟩ (c_against l dC dI b d wn cd (nI mn) (nI T.1) ks2 ct2 sm2 le2 gr2 fk fa ps hwn (by omega)) (cwV 1 hta (gV w343 w345 sM_against w2 w346) rfl rfl rfl (by decide +kernel) ⟨Nat.le_of_ble_eq_true rfl, Nat.le_of_ble_eq_true rfl⟩) ⟨gb_R, va_recv hK hP (ci := 1) (q0 := 0) rfl rfl, fun U hU hW => ⟨rfl, by rw [hU]; exact hP, va_K.moved hW.alike hK⟩⟩ rfl rfl hl.1 rfl (lv_room (Nat.le_of_ble_eq_true rfl)) dM_comes_15 ⟨Nat.le_of_ble_eq_true rfl, Nat.le_of_ble_eq_true rfl⟩) ?_
    refine lv_if_ne (tgt := 25) hx hb dM_comes_18 (by decide) (fun h2 => ?_) (fun h2 => ?_)
    · skip
      have hc2 : ¬ (lowP wn T.1 T.2.1 fk < T.1 ∧ lx (T.2.1 (lowP wn T.1 T.2.1 fk)) fk wn 0 = 0) := by rw [← eps]; exact fun q => h2 ((repM_has hrep h1).mpr q.2)
      refine lv_iconst (v := 0) hx hb dM_comes_25 (by decide) ?_
      refine lv_istore_n (lv' := [(3, .int 0), (2, .int (nI ps)), (0, .ref (b 0)), (1, .int nn)]) hx hb dM_comes_26 rfl hl (by decide) rfl (fun ls hl => ?_)
      refine lv_iload_n hx hb dM_comes_27 rfl (lv_at hl 0 rfl) ?_
      refine lv_if_ne (tgt := 43) hx hb dM_comes_28 (by decide) (fun h5 => ?_) (fun h5 => ?_)
      · skip
        exact absurd rfl h5
      · skip
        refine lv_aload_n hx hb dM_comes_31 rfl (lv_at hl 2 rfl) ?_
        refine va_get (D := (dC, dI)) (ci := 1) (v := .int (nI T.1)) (C := "GroupRowsModel") (T := FM) (N := 11) hx hb hta inM hown hK hP 0 rfl rfl 3 (by decide) (hta _ w283) (fun _ h9 => h9) rfl dM_comes_32 ?_
        refine lv_sipush (v := 1000) hx hb dM_comes_35 (by decide) ?_
        refine lv_icmp_ne (tgt := 43) hx hb dM_comes_38 (by decide) (fun h6 => ?_) (fun h6 => ?_)
        · skip
          have h6 : T.1 < 1000 := by
            rcases Nat.lt_or_ge T.1 1000 with z | z
            · exact z
            · exact absurd (by rw [show T.1 = 1000 by omega]; rfl) h6
          have hne : ps < T.1 → ¬ keq wn (T.2.1 ps) fk := fun q1 q2 => hc2 (by rw [← eps]; exact ⟨q1, lx_eq.mpr q2⟩)
          have e9 := takeT_new (fa := fa) (nn := nn.toInt64) hc2 h6
          rw [← eps] at e9
          refine lv_iload_n hx hb dM_comes_43 rfl (lv_at hl 0 rfl) ?_
          refine lv_if_ne (tgt := 178) hx hb dM_comes_44 (by decide) (fun h7 => ?_) (fun h7 => ?_)
          · skip
            exact absurd rfl h7
          · skip
            refine lv_aload_n hx hb dM_comes_47 rfl (lv_at hl 2 rfl) ?_
            refine va_get (D := (dC, dI)) (ci := 1) (v := .int (nI T.1)) (C := "GroupRowsModel") (T := FM) (N := 11) hx hb hta inM hown hK hP 0 rfl rfl 3 (by decide) (hta _ w283) (fun _ h9 => h9) rfl dM_comes_48 ?_
            refine lv_istore (lv' := [(4, .int (nI T.1)), (3, .int 0), (2, .int (nI ps)), (0, .ref (b 0)), (1, .int nn)]) hx hb dM_comes_51 hl (by decide) rfl (fun ls hl => ?_)
            have shl : ∀ (kk kv : Nat) (ks1 : Nat → Int32) (ct1 sm1 le1 gr1 : Nat → Int64), ps + kk = kv → kv ≤ T.1 → shf ks2 ks1 T.1 kv → shc ct2 ct1 T.1 kv → shf sm2 sm1 T.1 kv → shf le2 le1 T.1 kv → shf gr2 gr1 T.1 kv → ∀ (H : Heap) (locs : List Loc), va_P (dC, dI) classes (wM b d cd (nI wn) (nI mn) (nI T.1) ks1 ct1 sm1 le1 gr1 fk fa) H → va_D A (wM b d cd (nI wn) (nI mn) (nI T.1) ks1 ct1 sm1 le1 gr1 fk fa) → va_S A s.heap H locs → ∀ (ls : Array Slot), lv_has ls 7 [(4, .int (nI kv)), (2, .int (nI ps)), (0, .ref (b 0)), (1, .int nn)] → W p l e (headSpec (Cond.code yM_comes bM_comes 7 (some .boolean) :: wAll) { frames := 2, cells := 0, slots := 0, locals := 96 }).room s m ([.ref (b 0), .int nn] : List Value).toArray below meth c H locs 0 0 (MQ below (va_Qi (fun (r9 : Int32) (_ : Unit) => r9 = (if (takeT wn fk fa nn.toInt64 T).2 = true then 1 else 0)) (fun (_ : Unit) (t9 : State) => atM dC dI A b d cd wn mn fk fa (takeT wn fk fa nn.toInt64 T).1 t9) A) ([.ref (b 0), .int nn] : List Value).toArray s 0 0 A) (F0 m 53 ls []) := by
              intro kk
              induction kk with
              | zero =>
                intro kv ks1 ct1 sm1 le1 gr1 hkv hkn s1 s2 s3 s4 s5 H locs hP hD hS ls hl
                refine lv_iload hx hb dM_comes_53 (lv_at hl 0 rfl) ?_
                refine lv_iload_n hx hb dM_comes_55 rfl (lv_at hl 1 rfl) ?_
                refine lv_icmp_le (tgt := 75) hx hb dM_comes_56 (by decide) (fun h8 => ?_) (fun h8 => ?_)
                · skip
                  have hkv : ps = kv := by omega
                  subst hkv
                  refine lv_aload_n hx hb dM_comes_75 rfl (lv_at hl 2 rfl) ?_
                  refine lv_dup hx hb dM_comes_76 rfl ?_
                  refine va_get (D := (dC, dI)) (ci := 1) (v := .int (nI T.1)) (C := "GroupRowsModel") (T := FM) (N := 11) hx hb hta inM hown hK hP 0 rfl rfl 3 (by decide) (hta _ w283) (fun _ h9 => h9) rfl dM_comes_77 ?_
                  refine lv_iconst (v := 1) hx hb dM_comes_80 (by decide) ?_
                  refine lv_iadd hx hb dM_comes_81 ?_
                  refine gi_as (y := nI (T.1 + 1)) (nI_1 _) ?_
                  refine va_put (D := (dC, dI)) (ci := 1) (v := .int (nI (T.1 + 1))) (ty := .int) (C := "GroupRowsModel") (T := FM) (N := 11) hx hb hta inM tM tMok nM hown hK hP hD hS 0 rfl rfl 3 (by decide) (hta _ w283) (fun _ h9 => h9) rfl (by decide +kernel) rfl rfl (Nat.le_of_ble_eq_true rfl) dM_comes_82 (fun H locs hP hD hS => ?_)
                  have hP : va_P (dC, dI) classes (wM b d cd (nI wn) (nI mn) (nI (T.1 + 1)) ks1 ct1 sm1 le1 gr1 fk fa) H := hP
                  have hD : va_D A (wM b d cd (nI wn) (nI mn) (nI (T.1 + 1)) ks1 ct1 sm1 le1 gr1 fk fa) := hD
                  refine lv_aload_n hx hb dM_comes_85 rfl (lv_at hl 2 rfl) ?_
                  refine va_get (D := (dC, dI)) (ci := 1) (v := .ref (b 2)) (C := "GroupRowsModel") (T := FM) (N := 11) hx hb hta inM hown hK hP 0 rfl rfl 5 (by decide) (hta _ w285) (fun _ h9 => h9) rfl dM_comes_86 ?_
                  refine lv_iload_n hx hb dM_comes_89 rfl (lv_at hl 1 rfl) ?_
                  refine lv_lconst (v := 0) hx hb dM_comes_90 (by decide) ?_
                  refine gi_last hx hb hK hP hD hS 2 1 rfl rfl (k := ps) (by omega) (by decide) dM_comes_91 (fun H locs hP hD hS => ?_)
                  have hP : va_P (dC, dI) classes (wM b d cd (nI wn) (nI mn) (nI (T.1 + 1)) ks1 (vp_updL ct1 ps 0) sm1 le1 gr1 fk fa) H := hP
                  have hD : va_D A (wM b d cd (nI wn) (nI mn) (nI (T.1 + 1)) ks1 (vp_updL ct1 ps 0) sm1 le1 gr1 fk fa) := hD
                  refine lv_iconst (v := 0) hx hb dM_comes_92 (by decide) ?_
                  refine gi_as (y := nI 0) (nI_0.symm) ?_
                  refine lv_istore (lv' := [(4, .int (nI 0)), (2, .int (nI ps)), (0, .ref (b 0)), (1, .int nn)]) hx hb dM_comes_93 hl (by decide) rfl (fun ls hl => ?_)
                  have ini : ∀ (kk j : Nat), j + kk = 8 → ∀ (H : Heap) (locs : List Loc), va_P (dC, dI) classes (wM b d cd (nI wn) (nI mn) (nI (T.1 + 1)) (upToI (fun m _ => fk m) (8 * ps) ks1 j) (vp_updL ct1 ps 0) (upTo (fun _ _ => 0) (8 * ps) sm1 j) (upTo (fun m _ => fa m) (8 * ps) le1 j) (upTo (fun m _ => fa m) (8 * ps) gr1 j) fk fa) H → va_D A (wM b d cd (nI wn) (nI mn) (nI (T.1 + 1)) (upToI (fun m _ => fk m) (8 * ps) ks1 j) (vp_updL ct1 ps 0) (upTo (fun _ _ => 0) (8 * ps) sm1 j) (upTo (fun m _ => fa m) (8 * ps) le1 j) (upTo (fun m _ => fa m) (8 * ps) gr1 j) fk fa) → va_S A s.heap H locs → ∀ (ls : Array Slot), lv_has ls 7 [(4, .int (nI j)), (2, .int (nI ps)), (0, .ref (b 0)), (1, .int nn)] → W p l e (headSpec (Cond.code yM_comes bM_comes 7 (some .boolean) :: wAll) { frames := 2, cells := 0, slots := 0, locals := 96 }).room s m ([.ref (b 0), .int nn] : List Value).toArray below meth c H locs 0 0 (MQ below (va_Qi (fun (r9 : Int32) (_ : Unit) => r9 = (if (takeT wn fk fa nn.toInt64 T).2 = true then 1 else 0)) (fun (_ : Unit) (t9 : State) => atM dC dI A b d cd wn mn fk fa (takeT wn fk fa nn.toInt64 T).1 t9) A) ([.ref (b 0), .int nn] : List Value).toArray s 0 0 A) (F0 m 95 ls []) := by
                    intro kk
                    induction kk with
                    | zero =>
                      intro j hj H locs hP hD hS ls hl
                      refine lv_iload hx hb dM_comes_95 (lv_at hl 0 rfl) ?_
                      refine lv_bipush (v := 8) hx hb dM_comes_97 (by decide) ?_
                      refine gi_as (y := nI 8) (rfl) ?_
                      refine lv_icmp_ge (tgt := 178) hx hb dM_comes_99 (by decide) (fun h9 => ?_) (fun h9 => ?_)
                      · skip
                        have hj : 8 = j := by omega
                        subst hj
                        have hl := lv_sub hl [1, 2, 3] rfl
                        have hl : lv_has ls 7 [(2, .int (nI ps)), (0, .ref (b 0)), (1, .int nn)] := hl
                        exact tail (T.1 + 1) _ _ _ _ _ (by omega) (by rw [e9]; rfl) (by rw [e9]) (by rw [e9]; exact repM_new hrep h6 hlow2 hne s1 s2 s3 s4 s5) H locs hP hD hS ls hl
                      · skip
                        exact absurd (nI_le (by omega) (by omega)) h9
                    | succ kk ih2 =>
                      intro j hj H locs hP hD hS ls hl
                      refine lv_iload hx hb dM_comes_95 (lv_at hl 0 rfl) ?_
                      refine lv_bipush (v := 8) hx hb dM_comes_97 (by decide) ?_
                      refine gi_as (y := nI 8) (rfl) ?_
                      refine lv_icmp_ge (tgt := 178) hx hb dM_comes_99 (by decide) (fun h9 => ?_) (fun h9 => ?_)
                      · skip
                        exact absurd h9 (nI_ge (a := j) (by omega) (by omega))
                      · skip
                        refine lv_aload_n hx hb dM_comes_102 rfl (lv_at hl 2 rfl) ?_
                        refine va_get (D := (dC, dI)) (ci := 1) (v := .ref (b 1)) (C := "GroupRowsModel") (T := FM) (N := 11) hx hb hta inM hown hK hP 0 rfl rfl 4 (by decide) (hta _ w284) (fun _ h9 => h9) rfl dM_comes_103 ?_
                        refine lv_bipush (v := 8) hx hb dM_comes_106 (by decide) ?_
                        refine lv_iload_n hx hb dM_comes_108 rfl (lv_at hl 1 rfl) ?_
                        refine lv_imul hx hb dM_comes_109 ?_
                        refine gi_as (y := nI (8 * ps)) (gi_8mul _) ?_
                        refine lv_iload hx hb dM_comes_110 (lv_at hl 0 rfl) ?_
                        refine lv_iadd hx hb dM_comes_112 ?_
                        refine gi_as (y := nI ((8 * ps) + j)) (nI_add _ _) ?_
                        refine lv_aload_n hx hb dM_comes_113 rfl (lv_at hl 2 rfl) ?_
                        refine va_get (D := (dC, dI)) (ci := 1) (v := .ref (b 6)) (C := "GroupRowsModel") (T := FM) (N := 11) hx hb hta inM hown hK hP 0 rfl rfl 9 (by decide) (hta _ w289) (fun _ h9 => h9) rfl dM_comes_114 ?_
                        refine lv_iload hx hb dM_comes_117 (lv_at hl 0 rfl) ?_
                        refine gi_iald hx hb hK hP 6 5 rfl rfl (k := j) (by omega) (by decide) dM_comes_119 ?_
                        refine gi_iast hx hb hK hP hD hS 1 0 rfl rfl (k := ((8 * ps) + j)) (by omega) (by decide) dM_comes_120 (fun H locs hP hD hS => ?_)
                        have hP : va_P (dC, dI) classes (wM b d cd (nI wn) (nI mn) (nI (T.1 + 1)) (upd (upToI (fun m _ => fk m) (8 * ps) ks1 j) ((8 * ps) + j) (fk j)) (vp_updL ct1 ps 0) (upTo (fun _ _ => 0) (8 * ps) sm1 j) (upTo (fun m _ => fa m) (8 * ps) le1 j) (upTo (fun m _ => fa m) (8 * ps) gr1 j) fk fa) H := hP
                        have hD : va_D A (wM b d cd (nI wn) (nI mn) (nI (T.1 + 1)) (upd (upToI (fun m _ => fk m) (8 * ps) ks1 j) ((8 * ps) + j) (fk j)) (vp_updL ct1 ps 0) (upTo (fun _ _ => 0) (8 * ps) sm1 j) (upTo (fun m _ => fa m) (8 * ps) le1 j) (upTo (fun m _ => fa m) (8 * ps) gr1 j) fk fa) := hD
                        refine lv_aload_n hx hb dM_comes_121 rfl (lv_at hl 2 rfl) ?_
                        refine va_get (D := (dC, dI)) (ci := 1) (v := .ref (b 3)) (C := "GroupRowsModel") (T := FM) (N := 11) hx hb hta inM hown hK hP 0 rfl rfl 6 (by decide) (hta _ w286) (fun _ h9 => h9) rfl dM_comes_122 ?_
                        refine lv_bipush (v := 8) hx hb dM_comes_125 (by decide) ?_
                        refine lv_iload_n hx hb dM_comes_127 rfl (lv_at hl 1 rfl) ?_
                        refine lv_imul hx hb dM_comes_128 ?_
                        refine gi_as (y := nI (8 * ps)) (gi_8mul _) ?_
                        refine lv_iload hx hb dM_comes_129 (lv_at hl 0 rfl) ?_
                        refine lv_iadd hx hb dM_comes_131 ?_
                        refine gi_as (y := nI ((8 * ps) + j)) (nI_add _ _) ?_
                        refine lv_lconst (v := 0) hx hb dM_comes_132 (by decide) ?_
                        refine gi_last hx hb hK hP hD hS 3 2 rfl rfl (k := ((8 * ps) + j)) (by omega) (by decide) dM_comes_133 (fun H locs hP hD hS => ?_)
                        have hP : va_P (dC, dI) classes (wM b d cd (nI wn) (nI mn) (nI (T.1 + 1)) (upd (upToI (fun m _ => fk m) (8 * ps) ks1 j) ((8 * ps) + j) (fk j)) (vp_updL ct1 ps 0) (vp_updL (upTo (fun _ _ => 0) (8 * ps) sm1 j) ((8 * ps) + j) 0) (upTo (fun m _ => fa m) (8 * ps) le1 j) (upTo (fun m _ => fa m) (8 * ps) gr1 j) fk fa) H := hP
                        have hD : va_D A (wM b d cd (nI wn) (nI mn) (nI (T.1 + 1)) (upd (upToI (fun m _ => fk m) (8 * ps) ks1 j) ((8 * ps) + j) (fk j)) (vp_updL ct1 ps 0) (vp_updL (upTo (fun _ _ => 0) (8 * ps) sm1 j) ((8 * ps) + j) 0) (upTo (fun m _ => fa m) (8 * ps) le1 j) (upTo (fun m _ => fa m) (8 * ps) gr1 j) fk fa) := hD
                        refine lv_aload_n hx hb dM_comes_134 rfl (lv_at hl 2 rfl) ?_
                        refine va_get (D := (dC, dI)) (ci := 1) (v := .ref (b 4)) (C := "GroupRowsModel") (T := FM) (N := 11) hx hb hta inM hown hK hP 0 rfl rfl 7 (by decide) (hta _ w287) (fun _ h9 => h9) rfl dM_comes_135 ?_
                        refine lv_bipush (v := 8) hx hb dM_comes_138 (by decide) ?_
                        refine lv_iload_n hx hb dM_comes_140 rfl (lv_at hl 1 rfl) ?_
                        refine lv_imul hx hb dM_comes_141 ?_
                        refine gi_as (y := nI (8 * ps)) (gi_8mul _) ?_
                        refine lv_iload hx hb dM_comes_142 (lv_at hl 0 rfl) ?_
                        refine lv_iadd hx hb dM_comes_144 ?_
                        refine gi_as (y := nI ((8 * ps) + j)) (nI_add _ _) ?_
                        refine lv_aload_n hx hb dM_comes_145 rfl (lv_at hl 2 rfl) ?_
                        refine va_get (D := (dC, dI)) (ci := 1) (v := .ref (b 7)) (C := "GroupRowsModel") (T := FM) (N := 11) hx hb hta inM hown hK hP 0 rfl rfl 10 (by decide) (hta _ w290) (fun _ h9 => h9) rfl dM_comes_146 ?_
                        refine lv_iload hx hb dM_comes_149 (lv_at hl 0 rfl) ?_
                        refine gi_lald hx hb hK hP 7 6 rfl rfl (k := j) (by omega) (by decide) dM_comes_151 ?_
                        refine gi_last hx hb hK hP hD hS 4 3 rfl rfl (k := ((8 * ps) + j)) (by omega) (by decide) dM_comes_152 (fun H locs hP hD hS => ?_)
                        have hP : va_P (dC, dI) classes (wM b d cd (nI wn) (nI mn) (nI (T.1 + 1)) (upd (upToI (fun m _ => fk m) (8 * ps) ks1 j) ((8 * ps) + j) (fk j)) (vp_updL ct1 ps 0) (vp_updL (upTo (fun _ _ => 0) (8 * ps) sm1 j) ((8 * ps) + j) 0) (vp_updL (upTo (fun m _ => fa m) (8 * ps) le1 j) ((8 * ps) + j) (fa j)) (upTo (fun m _ => fa m) (8 * ps) gr1 j) fk fa) H := hP
                        have hD : va_D A (wM b d cd (nI wn) (nI mn) (nI (T.1 + 1)) (upd (upToI (fun m _ => fk m) (8 * ps) ks1 j) ((8 * ps) + j) (fk j)) (vp_updL ct1 ps 0) (vp_updL (upTo (fun _ _ => 0) (8 * ps) sm1 j) ((8 * ps) + j) 0) (vp_updL (upTo (fun m _ => fa m) (8 * ps) le1 j) ((8 * ps) + j) (fa j)) (upTo (fun m _ => fa m) (8 * ps) gr1 j) fk fa) := hD
                        refine lv_aload_n hx hb dM_comes_153 rfl (lv_at hl 2 rfl) ?_
                        refine va_get (D := (dC, dI)) (ci := 1) (v := .ref (b 5)) (C := "GroupRowsModel") (T := FM) (N := 11) hx hb hta inM hown hK hP 0 rfl rfl 8 (by decide) (hta _ w288) (fun _ h9 => h9) rfl dM_comes_154 ?_
                        refine lv_bipush (v := 8) hx hb dM_comes_157 (by decide) ?_
                        refine lv_iload_n hx hb dM_comes_159 rfl (lv_at hl 1 rfl) ?_
                        refine lv_imul hx hb dM_comes_160 ?_
                        refine gi_as (y := nI (8 * ps)) (gi_8mul _) ?_
                        refine lv_iload hx hb dM_comes_161 (lv_at hl 0 rfl) ?_
                        refine lv_iadd hx hb dM_comes_163 ?_
                        refine gi_as (y := nI ((8 * ps) + j)) (nI_add _ _) ?_
                        refine lv_aload_n hx hb dM_comes_164 rfl (lv_at hl 2 rfl) ?_
                        refine va_get (D := (dC, dI)) (ci := 1) (v := .ref (b 7)) (C := "GroupRowsModel") (T := FM) (N := 11) hx hb hta inM hown hK hP 0 rfl rfl 10 (by decide) (hta _ w290) (fun _ h9 => h9) rfl dM_comes_165 ?_
                        refine lv_iload hx hb dM_comes_168 (lv_at hl 0 rfl) ?_
                        refine gi_lald hx hb hK hP 7 6 rfl rfl (k := j) (by omega) (by decide) dM_comes_170 ?_
                        refine gi_last hx hb hK hP hD hS 5 4 rfl rfl (k := ((8 * ps) + j)) (by omega) (by decide) dM_comes_171 (fun H locs hP hD hS => ?_)
                        have hP : va_P (dC, dI) classes (wM b d cd (nI wn) (nI mn) (nI (T.1 + 1)) (upd (upToI (fun m _ => fk m) (8 * ps) ks1 j) ((8 * ps) + j) (fk j)) (vp_updL ct1 ps 0) (vp_updL (upTo (fun _ _ => 0) (8 * ps) sm1 j) ((8 * ps) + j) 0) (vp_updL (upTo (fun m _ => fa m) (8 * ps) le1 j) ((8 * ps) + j) (fa j)) (vp_updL (upTo (fun m _ => fa m) (8 * ps) gr1 j) ((8 * ps) + j) (fa j)) fk fa) H := hP
                        have hD : va_D A (wM b d cd (nI wn) (nI mn) (nI (T.1 + 1)) (upd (upToI (fun m _ => fk m) (8 * ps) ks1 j) ((8 * ps) + j) (fk j)) (vp_updL ct1 ps 0) (vp_updL (upTo (fun _ _ => 0) (8 * ps) sm1 j) ((8 * ps) + j) 0) (vp_updL (upTo (fun m _ => fa m) (8 * ps) le1 j) ((8 * ps) + j) (fa j)) (vp_updL (upTo (fun m _ => fa m) (8 * ps) gr1 j) ((8 * ps) + j) (fa j)) fk fa) := hD
                        refine lv_iinc (v := (nI (j + 1))) (lv' := [(4, .int (nI (j + 1))), (2, .int (nI ps)), (0, .ref (b 0)), (1, .int nn)]) hx hb dM_comes_172 hl (k := 0) rfl (nI_1 _) (by decide) rfl (fun ls hl => ?_)
                        refine lv_goto (tgt := 95) hx hb dM_comes_175 (by decide) ?_
                        have hl := lv_sub hl [0, 1, 2, 3] rfl
                        have hl : lv_has ls 7 [(4, .int (nI (j + 1))), (2, .int (nI ps)), (0, .ref (b 0)), (1, .int nn)] := hl
                        exact ih2 (j + 1) (by omega) H locs hP hD hS ls hl
                  have hl := lv_sub hl [0, 1, 2, 3] rfl
                  have hl : lv_has ls 7 [(4, .int (nI 0)), (2, .int (nI ps)), (0, .ref (b 0)), (1, .int nn)] := hl
                  exact ini 8 0 (by omega) H locs hP hD hS ls hl
                · skip
                  exact absurd (nI_le (by omega) (by omega)) h8
              | succ kk ih =>
                intro kv ks1 ct1 sm1 le1 gr1 hkv hkn s1 s2 s3 s4 s5 H locs hP hD hS ls hl
                refine lv_iload hx hb dM_comes_53 (lv_at hl 0 rfl) ?_
                refine lv_iload_n hx hb dM_comes_55 rfl (lv_at hl 1 rfl) ?_
                refine lv_icmp_le (tgt := 75) hx hb dM_comes_56 (by decide) (fun h8 => ?_) (fun h8 => ?_)
                · skip
                  exact absurd h8 (nI_ge (a := ps) (b := kv) (by omega) (by omega))
                · skip
                  obtain ⟨k0, ek0⟩ : ∃ k0, kv = k0 + 1 := ⟨kv - 1, by omega⟩
                  subst ek0
                  refine lv_aload_n hx hb dM_comes_59 rfl (lv_at hl 2 rfl) ?_
                  refine lv_iload hx hb dM_comes_60 (lv_at hl 0 rfl) ?_
                  refine lv_iconst (v := 1) hx hb dM_comes_62 (by decide) ?_
                  refine lv_isub hx hb dM_comes_63 ?_
                  refine gi_as (y := nI k0) (nI_pred k0) ?_
                  refine lv_iload hx hb dM_comes_64 (lv_at hl 0 rfl) ?_
                  have hPc := hP
                  have hDc := hD
                  have hKc := hK
                  have hFc := va_free (wc := (wM b d cd (nI wn) (nI mn) (nI T.1) ks1 ct1 sm1 le1 gr1 fk fa)) hD hS hA [0, 1, 2, 3, 4, 5, 6, 7] rfl
                  refine va_callv (va_runV (As := [.int (nI k0), .int (nI (k0 + 1))]) (rest := []) ⟨hx, hb, hml, hown, hta⟩ (c_copy l dC dI b d cd (nI wn) (nI mn) (nI T.1) ks1 ct1 sm1 le1 gr1 fk fa k0 (k0 + 1) (by omega) (by omega) H.size) (cwV 2 hta (gV w347 w349 sM_copy w2 w350) rfl rfl rfl (by decide +kernel) ⟨Nat.le_of_ble_eq_true rfl, Nat.le_of_ble_eq_true rfl⟩) ⟨gb_W, va_recv hKc hPc (ci := 1) (q0 := 0) rfl rfl, fun U hU hW => ⟨rfl, by rw [hU], by rw [hU]; exact hPc, va_K.moved hW.alike hKc, hDc.weaken (fun _ _ _ _ => trivial)⟩⟩ rfl rfl hl.1 rfl (lv_room (Nat.le_of_ble_eq_true rfl)) dM_comes_66 ⟨Nat.le_of_ble_eq_true rfl, Nat.le_of_ble_eq_true rfl⟩) hS (fun q _ h => hFc q h) hFc (fun u t H1 locs ht hvm hw hB hz1 hk1 hS => ?_)
                  obtain ⟨hP1, hK1, hD1⟩ := hB
                  rw [ht] at hP1
                  obtain ⟨hP, hD⟩ := va_join (wr := []) (w1 := (wM b d cd (nI wn) (nI mn) (nI T.1) (upToI (fun m _ => ks1 (8 * k0 + m)) (8 * (k0 + 1)) ks1 8) (vp_updL ct1 (k0 + 1) (ct1 k0)) (upTo (fun m _ => sm1 (8 * k0 + m)) (8 * (k0 + 1)) sm1 8) (upTo (fun m _ => le1 (8 * k0 + m)) (8 * (k0 + 1)) le1 8) (upTo (fun m _ => gr1 (8 * k0 + m)) (8 * (k0 + 1)) gr1 8) fk fa)) hP hD [0, 1, 2, 3, 4, 5, 6, 7] [] rfl rfl (by decide) (by decide) hk1 hFc hP1 hD1
                  generalize H1 = H at hP hS ⊢
                  have hP : va_P (dC, dI) classes (wM b d cd (nI wn) (nI mn) (nI T.1) (upToI (fun m _ => ks1 (8 * k0 + m)) (8 * (k0 + 1)) ks1 8) (vp_updL ct1 (k0 + 1) (ct1 k0)) (upTo (fun m _ => sm1 (8 * k0 + m)) (8 * (k0 + 1)) sm1 8) (upTo (fun m _ => le1 (8 * k0 + m)) (8 * (k0 + 1)) le1 8) (upTo (fun m _ => gr1 (8 * k0 + m)) (8 * (k0 + 1)) gr1 8) fk fa) H := hP
                  have hD : va_D A (wM b d cd (nI wn) (nI mn) (nI T.1) (upToI (fun m _ => ks1 (8 * k0 + m)) (8 * (k0 + 1)) ks1 8) (vp_updL ct1 (k0 + 1) (ct1 k0)) (upTo (fun m _ => sm1 (8 * k0 + m)) (8 * (k0 + 1)) sm1 8) (upTo (fun m _ => le1 (8 * k0 + m)) (8 * (k0 + 1)) le1 8) (upTo (fun m _ => gr1 (8 * k0 + m)) (8 * (k0 + 1)) gr1 8) fk fa) := hD
                  refine lv_iinc (v := (nI k0)) (lv' := [(4, .int (nI k0)), (2, .int (nI ps)), (0, .ref (b 0)), (1, .int nn)]) hx hb dM_comes_69 hl (k := 0) rfl (pk_m1 k0) (by decide) rfl (fun ls hl => ?_)
                  refine lv_goto (tgt := 53) hx hb dM_comes_72 (by decide) ?_
                  have hl := lv_sub hl [0, 1, 2, 3] rfl
                  have hl : lv_has ls 7 [(4, .int (nI k0)), (2, .int (nI ps)), (0, .ref (b 0)), (1, .int nn)] := hl
                  exact ih k0 _ _ _ _ _ (by omega) (by omega) (shf_I s1 hkn h6) (shc_L s2 hkn h6) (shf_L s3 hkn h6) (shf_L s4 hkn h6) (shf_L s5 hkn h6) H locs hP hD hS ls hl
            have hl := lv_sub hl [0, 2, 3, 4] rfl
            have hl : lv_has ls 7 [(4, .int (nI T.1)), (2, .int (nI ps)), (0, .ref (b 0)), (1, .int nn)] := hl
            exact shl (T.1 - ps) T.1 ks2 ct2 sm2 le2 gr2 (by omega) (Nat.le_refl _) (shf_0 _ _) (shc_0 _ _) (shf_0 _ _) (shf_0 _ _) (shf_0 _ _) s.heap [] hP hD hS ls hl
        · skip
          have h6 : ¬ T.1 < 1000 := fun q => by have := (nI_eq (a := T.1) (b := 1000) (by omega) (by decide)).mp h6; omega
          refine lv_iconst (v := 0) hx hb dM_comes_41 (by decide) ?_
          have e9 := takeT_full (fa := fa) (nn := nn.toInt64) hc2 h6
          exact W.zret (v := 0) hx hb hr rfl (fun t9 ht9 hW9 => ⟨⟨0, (), rfl, by rw [e9]; rfl, by rw [e9]; exact ⟨_, _, _, _, _, hrep, by rw [ht9]; exact hP, va_K.moved hW9.alike hK, hD⟩⟩, hS.F ht9⟩) hS.2.2 dM_comes_42
    · skip
      have hc2 : lowP wn T.1 T.2.1 fk < T.1 ∧ lx (T.2.1 (lowP wn T.1 T.2.1 fk)) fk wn 0 = 0 := by rw [← eps]; exact ⟨h1, (repM_has hrep h1).mp h2⟩
      have e9 := takeT_hit (fa := fa) (nn := nn.toInt64) hc2
      rw [← eps] at e9
      refine lv_iconst (v := 1) hx hb dM_comes_21 (by decide) ?_
      refine lv_goto (tgt := 26) hx hb dM_comes_22 (by decide) ?_
      refine lv_istore_n (lv' := [(3, .int 1), (2, .int (nI ps)), (0, .ref (b 0)), (1, .int nn)]) hx hb dM_comes_26 rfl hl (by decide) rfl (fun ls hl => ?_)
      refine lv_iload_n hx hb dM_comes_27 rfl (lv_at hl 0 rfl) ?_
      refine lv_if_ne (tgt := 43) hx hb dM_comes_28 (by decide) (fun h5 => ?_) (fun h5 => ?_)
      · skip
        refine lv_iload_n hx hb dM_comes_43 rfl (lv_at hl 0 rfl) ?_
        refine lv_if_ne (tgt := 178) hx hb dM_comes_44 (by decide) (fun h7 => ?_) (fun h7 => ?_)
        · skip
          have hl := lv_sub hl [1, 2, 3] rfl
          have hl : lv_has ls 7 [(2, .int (nI ps)), (0, .ref (b 0)), (1, .int nn)] := hl
          exact tail T.1 ks2 ct2 sm2 le2 gr2 (by omega) (by rw [e9]; rfl) (by rw [e9]) (by rw [e9]; exact repM_hit hrep h1) s.heap [] hP hD hS ls hl
        · skip
          exact absurd h7 (by decide)
      · skip
        exact absurd h5 (by decide)
end
section
set_option maxHeartbeats 4000000 in
set_option maxRecDepth 100000 in
theorem c_Mkey (l : Launch) (dC : Nat → ClassId) (dI : Nat → Nat → Nat) (b : Nat → Nat) (d : Nat → ClassId) (cd : Int32) (wn mn : Nat) (fk : Nat → Int32) (fa : Nat → Int64) (T : TB) (ks2 : Nat → Int32) (ct2 sm2 le2 gr2 : Nat → Int64) (hrep : repT (fun p => p) wn mn T ks2 ct2 sm2 le2 gr2) (i v : Int32) (sz : Nat)  : Met l yM_key (Cond.code yM_key bM_key 4 (some .int) :: wAll) { frames := 3, cells := 0, slots := 0, locals := 128 } (va_Pc [.ref (b 0), .int i, .int v] (fun U => U.heap.size = sz ∧ va_P (dC, dI) classes (wM b d cd (nI wn) (nI mn) (nI T.1) ks2 ct2 sm2 le2 gr2 fk fa) U.heap ∧ va_K (dC, dI) classes (kM d) U ∧ va_D (fun _ => True) (wM b d cd (nI wn) (nI mn) (nI T.1) ks2 ct2 sm2 le2 gr2 fk fa))) (va_Qi (fun (r9 : Int32) (_ : Unit) => r9 = (if 0 ≤ i ∧ i < nI wn then fk i.toNatClampNeg else 0)) (fun (_ : Unit) (t9 : State) => ((0 ≤ i ∧ i < nI wn) → atM dC dI (va_A (wM b d cd (nI wn) (nI mn) (nI T.1) ks2 ct2 sm2 le2 gr2 fk fa) sz) b d 0 wn mn (upd fk i.toNatClampNeg v) fa T t9) ∧ (¬ (0 ≤ i ∧ i < nI wn) → atM dC dI (va_A (wM b d cd (nI wn) (nI mn) (nI T.1) ks2 ct2 sm2 le2 gr2 fk fa) sz) b d 1 wn mn fk fa T t9)) (va_A (wM b d cd (nI wn) (nI mn) (nI T.1) ks2 ct2 sm2 le2 gr2 fk fa) sz)) 0 0 (va_A (wM b d cd (nI wn) (nI mn) (nI T.1) ks2 ct2 sm2 le2 gr2 fk fa) sz) := by
  refine Met.ofW (cc := bM_key) (maxL := 4) (ret := (some .int)) (by decide) rfl ?_
  intro p e s m args below meth c s₁ B hml hv
  obtain ⟨rfl, hsz, hP, hK, hD0⟩ := hv
  have hx := B.exec
  have hb := B.bytes
  have hr := B.returns
  have hta : ∀ w ∈ wAll, w.before ([.ref (b 0), .int i, .int v] : List Value).toArray s = true := fun w h => atoms_spec (ws := (Cond.code yM_key bM_key 4 (some .int) :: wAll)) B.pre w (List.mem_cons_of_mem _ h)
  have hown : s.vm.findClass "GroupRowsModel" = some m.cls := findClass_of_methodNamed B.named
  have hlocks := B.notSynchronized
  subst hsz
  have hD := hD0.self (sz := s.heap.size)
  generalize hAe : va_A (wM b d cd (nI wn) (nI mn) (nI T.1) ks2 ct2 sm2 le2 gr2 fk fa) s.heap.size = A at hD ⊢
  have hA : ∀ q : Nat, s.heap.size ≤ q → A q := fun q h => by rw [← hAe]; exact Or.inr h
  have hS : va_S A s.heap s.heap [] := va_S.rf
  have hP : va_P (dC, dI) classes (wM b d cd (nI wn) (nI mn) (nI T.1) ks2 ct2 sm2 le2 gr2 fk fa) s.heap := hP
  have hl := lv_entry ([.ref (b 0), .int i, .int v]) (n := 4) (Nat.le_of_ble_eq_true rfl)
  rw [lg_entry_eq]
  generalize (lg_sl ([.ref (b 0), .int i, .int v]) ++ List.replicate (4 - (lg_sl ([.ref (b 0), .int i, .int v])).length) Slot.unset).toArray = ls at hl ⊢
  have hl : lv_has ls 4 [(0, .ref (b 0)), (1, .int i), (2, .int v)] := hl
  obtain ⟨⟨hwn, hmn1, hmn, hn⟩, hk9, hc9, hv9, hs9⟩ := id hrep
  refine lv_aload_n hx hb dM_key_0 rfl (lv_at hl 0 rfl) ?_
  refine lv_iload_n hx hb dM_key_1 rfl (lv_at hl 1 rfl) ?_
  refine lv_if_lt (tgt := 13) hx hb dM_key_2 (by decide) (fun h1 => ?_) (fun h1 => ?_)
  · skip
    refine lv_iconst (v := 1) hx hb dM_key_13 (by decide) ?_
    refine lv_goto (tgt := 18) hx hb dM_key_14 (by decide) ?_
    refine va_put (D := (dC, dI)) (ci := 1) (v := .int 1) (ty := .int) (C := "GroupRowsModel") (T := FM) (N := 11) hx hb hta inM tM tMok nM hown hK hP hD hS 0 rfl rfl 0 (by decide) (hta _ w280) (fun _ h9 => h9) rfl (by decide +kernel) rfl rfl (Nat.le_of_ble_eq_true rfl) dM_key_18 (fun H locs hP hD hS => ?_)
    have hP : va_P (dC, dI) classes (wM b d 1 (nI wn) (nI mn) (nI T.1) ks2 ct2 sm2 le2 gr2 fk fa) H := hP
    have hD : va_D A (wM b d 1 (nI wn) (nI mn) (nI T.1) ks2 ct2 sm2 le2 gr2 fk fa) := hD
    refine lv_aload_n hx hb dM_key_21 rfl (lv_at hl 0 rfl) ?_
    refine va_get (D := (dC, dI)) (ci := 1) (v := .int 1) (C := "GroupRowsModel") (T := FM) (N := 11) hx hb hta inM hown hK hP 0 rfl rfl 0 (by decide) (hta _ w280) (fun _ h9 => h9) rfl dM_key_22 ?_
    refine lv_if_le (tgt := 30) hx hb dM_key_25 (by decide) (fun hz => ?_) (fun hz => ?_)
    · skip
      exact absurd hz (by decide)
    · skip
      refine lv_iconst (v := 0) hx hb dM_key_28 (by decide) ?_
      exact W.iret (v := 0) hx hb hr (fun t9 ht9 hW9 => ⟨⟨0, (), rfl, (if_neg (fun q => absurd q.1 (Int32.not_le.mpr h1))).symm, ⟨fun h9 => absurd h9 (fun q => absurd q.1 (Int32.not_le.mpr h1)), fun _ => ⟨_, _, _, _, _, hrep, by rw [ht9]; exact hP, va_K.moved hW9.alike hK, hD⟩⟩⟩, hS.F ht9⟩) hS.2.2 dM_key_29
  · skip
    refine lv_iload_n hx hb dM_key_5 rfl (lv_at hl 1 rfl) ?_
    refine lv_aload_n hx hb dM_key_6 rfl (lv_at hl 0 rfl) ?_
    refine va_get (D := (dC, dI)) (ci := 1) (v := .int (nI wn)) (C := "GroupRowsModel") (T := FM) (N := 11) hx hb hta inM hown hK hP 0 rfl rfl 1 (by decide) (hta _ w281) (fun _ h9 => h9) rfl dM_key_7 ?_
    refine lv_icmp_lt (tgt := 17) hx hb dM_key_10 (by decide) (fun h2 => ?_) (fun h2 => ?_)
    · skip
      refine lv_iconst (v := 0) hx hb dM_key_17 (by decide) ?_
      refine va_put (D := (dC, dI)) (ci := 1) (v := .int 0) (ty := .int) (C := "GroupRowsModel") (T := FM) (N := 11) hx hb hta inM tM tMok nM hown hK hP hD hS 0 rfl rfl 0 (by decide) (hta _ w280) (fun _ h9 => h9) rfl (by decide +kernel) rfl rfl (Nat.le_of_ble_eq_true rfl) dM_key_18 (fun H locs hP hD hS => ?_)
      have hP : va_P (dC, dI) classes (wM b d 0 (nI wn) (nI mn) (nI T.1) ks2 ct2 sm2 le2 gr2 fk fa) H := hP
      have hD : va_D A (wM b d 0 (nI wn) (nI mn) (nI T.1) ks2 ct2 sm2 le2 gr2 fk fa) := hD
      refine lv_aload_n hx hb dM_key_21 rfl (lv_at hl 0 rfl) ?_
      refine va_get (D := (dC, dI)) (ci := 1) (v := .int 0) (C := "GroupRowsModel") (T := FM) (N := 11) hx hb hta inM hown hK hP 0 rfl rfl 0 (by decide) (hta _ w280) (fun _ h9 => h9) rfl dM_key_22 ?_
      refine lv_if_le (tgt := 30) hx hb dM_key_25 (by decide) (fun hz => ?_) (fun hz => ?_)
      rotate_left
      · skip
        exact absurd (by decide) hz
      · skip
        have hL : 0 ≤ i ∧ i < nI wn := ⟨Int32.not_lt.mp h1, h2⟩
        obtain ⟨j, hj, ej, cj⟩ := in_nI (by omega) hL
        subst ej
        refine lv_aload_n hx hb dM_key_30 rfl (lv_at hl 0 rfl) ?_
        refine va_get (D := (dC, dI)) (ci := 1) (v := .ref (b 6)) (C := "GroupRowsModel") (T := FM) (N := 11) hx hb hta inM hown hK hP 0 rfl rfl 9 (by decide) (hta _ w289) (fun _ h9 => h9) rfl dM_key_31 ?_
        refine lv_iload_n hx hb dM_key_34 rfl (lv_at hl 1 rfl) ?_
        refine gi_iald hx hb hK hP 6 5 rfl rfl (k := j) (by omega) (by decide) dM_key_35 ?_
        refine lv_istore_n (lv' := [(3, .int (fk j)), (0, .ref (b 0)), (1, .int (nI j)), (2, .int v)]) hx hb dM_key_36 rfl hl (by decide) rfl (fun ls hl => ?_)
        refine lv_aload_n hx hb dM_key_37 rfl (lv_at hl 1 rfl) ?_
        refine va_get (D := (dC, dI)) (ci := 1) (v := .ref (b 6)) (C := "GroupRowsModel") (T := FM) (N := 11) hx hb hta inM hown hK hP 0 rfl rfl 9 (by decide) (hta _ w289) (fun _ h9 => h9) rfl dM_key_38 ?_
        refine lv_iload_n hx hb dM_key_41 rfl (lv_at hl 2 rfl) ?_
        refine lv_iload_n hx hb dM_key_42 rfl (lv_at hl 3 rfl) ?_
        refine gi_iast hx hb hK hP hD hS 6 5 rfl rfl (k := j) (by omega) (by decide) dM_key_43 (fun H locs hP hD hS => ?_)
        have hP : va_P (dC, dI) classes (wM b d 0 (nI wn) (nI mn) (nI T.1) ks2 ct2 sm2 le2 gr2 (upd fk j v) fa) H := hP
        have hD : va_D A (wM b d 0 (nI wn) (nI mn) (nI T.1) ks2 ct2 sm2 le2 gr2 (upd fk j v) fa) := hD
        refine lv_iload_n hx hb dM_key_44 rfl (lv_at hl 0 rfl) ?_
        exact W.iret (v := (fk j)) hx hb hr (fun t9 ht9 hW9 => ⟨⟨(fk j), (), rfl, by rw [if_pos hL, cj], ⟨fun _ => by rw [cj]; exact ⟨_, _, _, _, _, hrep, by rw [ht9]; exact hP, va_K.moved hW9.alike hK, hD⟩, fun h9 => absurd (hL) h9⟩⟩, hS.F ht9⟩) hS.2.2 dM_key_45
    · skip
      refine lv_iconst (v := 1) hx hb dM_key_13 (by decide) ?_
      refine lv_goto (tgt := 18) hx hb dM_key_14 (by decide) ?_
      refine va_put (D := (dC, dI)) (ci := 1) (v := .int 1) (ty := .int) (C := "GroupRowsModel") (T := FM) (N := 11) hx hb hta inM tM tMok nM hown hK hP hD hS 0 rfl rfl 0 (by decide) (hta _ w280) (fun _ h9 => h9) rfl (by decide +kernel) rfl rfl (Nat.le_of_ble_eq_true rfl) dM_key_18 (fun H locs hP hD hS => ?_)
      have hP : va_P (dC, dI) classes (wM b d 1 (nI wn) (nI mn) (nI T.1) ks2 ct2 sm2 le2 gr2 fk fa) H := hP
      have hD : va_D A (wM b d 1 (nI wn) (nI mn) (nI T.1) ks2 ct2 sm2 le2 gr2 fk fa) := hD
      refine lv_aload_n hx hb dM_key_21 rfl (lv_at hl 0 rfl) ?_
      refine va_get (D := (dC, dI)) (ci := 1) (v := .int 1) (C := "GroupRowsModel") (T := FM) (N := 11) hx hb hta inM hown hK hP 0 rfl rfl 0 (by decide) (hta _ w280) (fun _ h9 => h9) rfl dM_key_22 ?_
      refine lv_if_le (tgt := 30) hx hb dM_key_25 (by decide) (fun hz => ?_) (fun hz => ?_)
      · skip
        exact absurd hz (by decide)
      · skip
        refine lv_iconst (v := 0) hx hb dM_key_28 (by decide) ?_
        exact W.iret (v := 0) hx hb hr (fun t9 ht9 hW9 => ⟨⟨0, (), rfl, (if_neg (fun q => h2 q.2)).symm, ⟨fun h9 => absurd h9 (fun q => h2 q.2), fun _ => ⟨_, _, _, _, _, hrep, by rw [ht9]; exact hP, va_K.moved hW9.alike hK, hD⟩⟩⟩, hS.F ht9⟩) hS.2.2 dM_key_29
set_option maxHeartbeats 4000000 in
set_option maxRecDepth 100000 in
theorem c_Mamount (l : Launch) (dC : Nat → ClassId) (dI : Nat → Nat → Nat) (b : Nat → Nat) (d : Nat → ClassId) (cd : Int32) (wn mn : Nat) (fk : Nat → Int32) (fa : Nat → Int64) (T : TB) (ks2 : Nat → Int32) (ct2 sm2 le2 gr2 : Nat → Int64) (hrep : repT (fun p => p) wn mn T ks2 ct2 sm2 le2 gr2) (m0 : Int32) (v : Int64) (sz : Nat)  : Met l yM_amount (Cond.code yM_amount bM_amount 6 (some .long) :: wAll) { frames := 3, cells := 0, slots := 0, locals := 128 } (va_Pc [.ref (b 0), .int m0, .long v] (fun U => U.heap.size = sz ∧ va_P (dC, dI) classes (wM b d cd (nI wn) (nI mn) (nI T.1) ks2 ct2 sm2 le2 gr2 fk fa) U.heap ∧ va_K (dC, dI) classes (kM d) U ∧ va_D (fun _ => True) (wM b d cd (nI wn) (nI mn) (nI T.1) ks2 ct2 sm2 le2 gr2 fk fa))) (va_Ql (fun (r9 : Int64) (_ : Unit) => r9 = (if 0 ≤ m0 ∧ m0 < nI mn then fa m0.toNatClampNeg else 0)) (fun (_ : Unit) (t9 : State) => ((0 ≤ m0 ∧ m0 < nI mn) → atM dC dI (va_A (wM b d cd (nI wn) (nI mn) (nI T.1) ks2 ct2 sm2 le2 gr2 fk fa) sz) b d 0 wn mn fk (vp_updL fa m0.toNatClampNeg v) T t9) ∧ (¬ (0 ≤ m0 ∧ m0 < nI mn) → atM dC dI (va_A (wM b d cd (nI wn) (nI mn) (nI T.1) ks2 ct2 sm2 le2 gr2 fk fa) sz) b d 1 wn mn fk fa T t9)) (va_A (wM b d cd (nI wn) (nI mn) (nI T.1) ks2 ct2 sm2 le2 gr2 fk fa) sz)) 0 0 (va_A (wM b d cd (nI wn) (nI mn) (nI T.1) ks2 ct2 sm2 le2 gr2 fk fa) sz) := by
  refine Met.ofW (cc := bM_amount) (maxL := 6) (ret := (some .long)) (by decide) rfl ?_
  intro p e s m args below meth c s₁ B hml hv
  obtain ⟨rfl, hsz, hP, hK, hD0⟩ := hv
  have hx := B.exec
  have hb := B.bytes
  have hr := B.returns
  have hta : ∀ w ∈ wAll, w.before ([.ref (b 0), .int m0, .long v] : List Value).toArray s = true := fun w h => atoms_spec (ws := (Cond.code yM_amount bM_amount 6 (some .long) :: wAll)) B.pre w (List.mem_cons_of_mem _ h)
  have hown : s.vm.findClass "GroupRowsModel" = some m.cls := findClass_of_methodNamed B.named
  have hlocks := B.notSynchronized
  subst hsz
  have hD := hD0.self (sz := s.heap.size)
  generalize hAe : va_A (wM b d cd (nI wn) (nI mn) (nI T.1) ks2 ct2 sm2 le2 gr2 fk fa) s.heap.size = A at hD ⊢
  have hA : ∀ q : Nat, s.heap.size ≤ q → A q := fun q h => by rw [← hAe]; exact Or.inr h
  have hS : va_S A s.heap s.heap [] := va_S.rf
  have hP : va_P (dC, dI) classes (wM b d cd (nI wn) (nI mn) (nI T.1) ks2 ct2 sm2 le2 gr2 fk fa) s.heap := hP
  have hl := lv_entry ([.ref (b 0), .int m0, .long v]) (n := 6) (Nat.le_of_ble_eq_true rfl)
  rw [lg_entry_eq]
  generalize (lg_sl ([.ref (b 0), .int m0, .long v]) ++ List.replicate (6 - (lg_sl ([.ref (b 0), .int m0, .long v])).length) Slot.unset).toArray = ls at hl ⊢
  have hl : lv_has ls 6 [(0, .ref (b 0)), (1, .int m0), (2, .long v)] := hl
  obtain ⟨⟨hwn, hmn1, hmn, hn⟩, hk9, hc9, hv9, hs9⟩ := id hrep
  refine lv_aload_n hx hb dM_amount_0 rfl (lv_at hl 0 rfl) ?_
  refine lv_iload_n hx hb dM_amount_1 rfl (lv_at hl 1 rfl) ?_
  refine lv_if_lt (tgt := 13) hx hb dM_amount_2 (by decide) (fun h1 => ?_) (fun h1 => ?_)
  · skip
    refine lv_iconst (v := 1) hx hb dM_amount_13 (by decide) ?_
    refine lv_goto (tgt := 18) hx hb dM_amount_14 (by decide) ?_
    refine va_put (D := (dC, dI)) (ci := 1) (v := .int 1) (ty := .int) (C := "GroupRowsModel") (T := FM) (N := 11) hx hb hta inM tM tMok nM hown hK hP hD hS 0 rfl rfl 0 (by decide) (hta _ w280) (fun _ h9 => h9) rfl (by decide +kernel) rfl rfl (Nat.le_of_ble_eq_true rfl) dM_amount_18 (fun H locs hP hD hS => ?_)
    have hP : va_P (dC, dI) classes (wM b d 1 (nI wn) (nI mn) (nI T.1) ks2 ct2 sm2 le2 gr2 fk fa) H := hP
    have hD : va_D A (wM b d 1 (nI wn) (nI mn) (nI T.1) ks2 ct2 sm2 le2 gr2 fk fa) := hD
    refine lv_aload_n hx hb dM_amount_21 rfl (lv_at hl 0 rfl) ?_
    refine va_get (D := (dC, dI)) (ci := 1) (v := .int 1) (C := "GroupRowsModel") (T := FM) (N := 11) hx hb hta inM hown hK hP 0 rfl rfl 0 (by decide) (hta _ w280) (fun _ h9 => h9) rfl dM_amount_22 ?_
    refine lv_if_le (tgt := 30) hx hb dM_amount_25 (by decide) (fun hz => ?_) (fun hz => ?_)
    · skip
      exact absurd hz (by decide)
    · skip
      refine lv_lconst (v := 0) hx hb dM_amount_28 (by decide) ?_
      exact W.lret (v := 0) hx hb hr (fun t9 ht9 hW9 => ⟨⟨0, (), rfl, (if_neg (fun q => absurd q.1 (Int32.not_le.mpr h1))).symm, ⟨fun h9 => absurd h9 (fun q => absurd q.1 (Int32.not_le.mpr h1)), fun _ => ⟨_, _, _, _, _, hrep, by rw [ht9]; exact hP, va_K.moved hW9.alike hK, hD⟩⟩⟩, hS.F ht9⟩) hS.2.2 dM_amount_29
  · skip
    refine lv_iload_n hx hb dM_amount_5 rfl (lv_at hl 1 rfl) ?_
    refine lv_aload_n hx hb dM_amount_6 rfl (lv_at hl 0 rfl) ?_
    refine va_get (D := (dC, dI)) (ci := 1) (v := .int (nI mn)) (C := "GroupRowsModel") (T := FM) (N := 11) hx hb hta inM hown hK hP 0 rfl rfl 2 (by decide) (hta _ w282) (fun _ h9 => h9) rfl dM_amount_7 ?_
    refine lv_icmp_lt (tgt := 17) hx hb dM_amount_10 (by decide) (fun h2 => ?_) (fun h2 => ?_)
    · skip
      refine lv_iconst (v := 0) hx hb dM_amount_17 (by decide) ?_
      refine va_put (D := (dC, dI)) (ci := 1) (v := .int 0) (ty := .int) (C := "GroupRowsModel") (T := FM) (N := 11) hx hb hta inM tM tMok nM hown hK hP hD hS 0 rfl rfl 0 (by decide) (hta _ w280) (fun _ h9 => h9) rfl (by decide +kernel) rfl rfl (Nat.le_of_ble_eq_true rfl) dM_amount_18 (fun H locs hP hD hS => ?_)
      have hP : va_P (dC, dI) classes (wM b d 0 (nI wn) (nI mn) (nI T.1) ks2 ct2 sm2 le2 gr2 fk fa) H := hP
      have hD : va_D A (wM b d 0 (nI wn) (nI mn) (nI T.1) ks2 ct2 sm2 le2 gr2 fk fa) := hD
      refine lv_aload_n hx hb dM_amount_21 rfl (lv_at hl 0 rfl) ?_
      refine va_get (D := (dC, dI)) (ci := 1) (v := .int 0) (C := "GroupRowsModel") (T := FM) (N := 11) hx hb hta inM hown hK hP 0 rfl rfl 0 (by decide) (hta _ w280) (fun _ h9 => h9) rfl dM_amount_22 ?_
      refine lv_if_le (tgt := 30) hx hb dM_amount_25 (by decide) (fun hz => ?_) (fun hz => ?_)
      rotate_left
      · skip
        exact absurd (by decide) hz
      · skip
        have hL : 0 ≤ m0 ∧ m0 < nI mn := ⟨Int32.not_lt.mp h1, h2⟩
        obtain ⟨j, hj, ej, cj⟩ := in_nI (by omega) hL
        subst ej
        refine lv_aload_n hx hb dM_amount_30 rfl (lv_at hl 0 rfl) ?_
        refine va_get (D := (dC, dI)) (ci := 1) (v := .ref (b 7)) (C := "GroupRowsModel") (T := FM) (N := 11) hx hb hta inM hown hK hP 0 rfl rfl 10 (by decide) (hta _ w290) (fun _ h9 => h9) rfl dM_amount_31 ?_
        refine lv_iload_n hx hb dM_amount_34 rfl (lv_at hl 1 rfl) ?_
        refine gi_lald hx hb hK hP 7 6 rfl rfl (k := j) (by omega) (by decide) dM_amount_35 ?_
        refine lv_lstore (lv' := [(4, .long (fa j)), (0, .ref (b 0)), (1, .int (nI j)), (2, .long v)]) hx hb dM_amount_36 hl (by decide) rfl (fun ls hl => ?_)
        refine lv_aload_n hx hb dM_amount_38 rfl (lv_at hl 1 rfl) ?_
        refine va_get (D := (dC, dI)) (ci := 1) (v := .ref (b 7)) (C := "GroupRowsModel") (T := FM) (N := 11) hx hb hta inM hown hK hP 0 rfl rfl 10 (by decide) (hta _ w290) (fun _ h9 => h9) rfl dM_amount_39 ?_
        refine lv_iload_n hx hb dM_amount_42 rfl (lv_at hl 2 rfl) ?_
        refine lv_lload_n hx hb dM_amount_43 rfl (lv_at hl 3 rfl) ?_
        refine gi_last hx hb hK hP hD hS 7 6 rfl rfl (k := j) (by omega) (by decide) dM_amount_44 (fun H locs hP hD hS => ?_)
        have hP : va_P (dC, dI) classes (wM b d 0 (nI wn) (nI mn) (nI T.1) ks2 ct2 sm2 le2 gr2 fk (vp_updL fa j v)) H := hP
        have hD : va_D A (wM b d 0 (nI wn) (nI mn) (nI T.1) ks2 ct2 sm2 le2 gr2 fk (vp_updL fa j v)) := hD
        refine lv_lload hx hb dM_amount_45 (lv_at hl 0 rfl) ?_
        exact W.lret (v := (fa j)) hx hb hr (fun t9 ht9 hW9 => ⟨⟨(fa j), (), rfl, by rw [if_pos hL, cj], ⟨fun _ => by rw [cj]; exact ⟨_, _, _, _, _, hrep, by rw [ht9]; exact hP, va_K.moved hW9.alike hK, hD⟩, fun h9 => absurd (hL) h9⟩⟩, hS.F ht9⟩) hS.2.2 dM_amount_47
    · skip
      refine lv_iconst (v := 1) hx hb dM_amount_13 (by decide) ?_
      refine lv_goto (tgt := 18) hx hb dM_amount_14 (by decide) ?_
      refine va_put (D := (dC, dI)) (ci := 1) (v := .int 1) (ty := .int) (C := "GroupRowsModel") (T := FM) (N := 11) hx hb hta inM tM tMok nM hown hK hP hD hS 0 rfl rfl 0 (by decide) (hta _ w280) (fun _ h9 => h9) rfl (by decide +kernel) rfl rfl (Nat.le_of_ble_eq_true rfl) dM_amount_18 (fun H locs hP hD hS => ?_)
      have hP : va_P (dC, dI) classes (wM b d 1 (nI wn) (nI mn) (nI T.1) ks2 ct2 sm2 le2 gr2 fk fa) H := hP
      have hD : va_D A (wM b d 1 (nI wn) (nI mn) (nI T.1) ks2 ct2 sm2 le2 gr2 fk fa) := hD
      refine lv_aload_n hx hb dM_amount_21 rfl (lv_at hl 0 rfl) ?_
      refine va_get (D := (dC, dI)) (ci := 1) (v := .int 1) (C := "GroupRowsModel") (T := FM) (N := 11) hx hb hta inM hown hK hP 0 rfl rfl 0 (by decide) (hta _ w280) (fun _ h9 => h9) rfl dM_amount_22 ?_
      refine lv_if_le (tgt := 30) hx hb dM_amount_25 (by decide) (fun hz => ?_) (fun hz => ?_)
      · skip
        exact absurd hz (by decide)
      · skip
        refine lv_lconst (v := 0) hx hb dM_amount_28 (by decide) ?_
        exact W.lret (v := 0) hx hb hr (fun t9 ht9 hW9 => ⟨⟨0, (), rfl, (if_neg (fun q => h2 q.2)).symm, ⟨fun h9 => absurd h9 (fun q => h2 q.2), fun _ => ⟨_, _, _, _, _, hrep, by rw [ht9]; exact hP, va_K.moved hW9.alike hK, hD⟩⟩⟩, hS.F ht9⟩) hS.2.2 dM_amount_29
set_option maxHeartbeats 4000000 in
set_option maxRecDepth 100000 in
theorem c_Mbegin (l : Launch) (dC : Nat → ClassId) (dI : Nat → Nat → Nat) (b : Nat → Nat) (d : Nat → ClassId) (cd : Int32) (wn mn : Nat) (fk : Nat → Int32) (fa : Nat → Int64) (T : TB) (ks2 : Nat → Int32) (ct2 sm2 le2 gr2 : Nat → Int64) (hrep : repT (fun p => p) wn mn T ks2 ct2 sm2 le2 gr2) (w0 m0 : Int32) (sz : Nat)  : Met l yM_begin (Cond.code yM_begin bM_begin 4 none :: wAll) { frames := 3, cells := 0, slots := 0, locals := 128 } (va_Pc [.ref (b 0), .int w0, .int m0] (fun U => U.heap.size = sz ∧ va_P (dC, dI) classes (wM b d cd (nI wn) (nI mn) (nI T.1) ks2 ct2 sm2 le2 gr2 fk fa) U.heap ∧ va_K (dC, dI) classes (kM d) U ∧ va_D (fun _ => True) (wM b d cd (nI wn) (nI mn) (nI T.1) ks2 ct2 sm2 le2 gr2 fk fa))) (va_Qv (fun _ : Unit => True) (fun (_ : Unit) (t9 : State) => (((0 ≤ w0 ∧ w0 ≤ 8) ∧ 1 ≤ m0 ∧ m0 ≤ 8) → atM dC dI (va_A (wM b d cd (nI wn) (nI mn) (nI T.1) ks2 ct2 sm2 le2 gr2 fk fa) sz) b d 0 w0.toNatClampNeg m0.toNatClampNeg (upToI (fun _ _ => 0) 0 fk 8) (upTo (fun _ _ => 0) 0 fa 8) (0, T.2) t9) ∧ (¬ ((0 ≤ w0 ∧ w0 ≤ 8) ∧ 1 ≤ m0 ∧ m0 ≤ 8) → atM dC dI (va_A (wM b d cd (nI wn) (nI mn) (nI T.1) ks2 ct2 sm2 le2 gr2 fk fa) sz) b d 1 wn mn fk fa T t9)) (va_A (wM b d cd (nI wn) (nI mn) (nI T.1) ks2 ct2 sm2 le2 gr2 fk fa) sz)) 0 0 (va_A (wM b d cd (nI wn) (nI mn) (nI T.1) ks2 ct2 sm2 le2 gr2 fk fa) sz) := by
  refine Met.ofW (cc := bM_begin) (maxL := 4) (ret := none) (by decide) rfl ?_
  intro p e s m args below meth c s₁ B hml hv
  obtain ⟨rfl, hsz, hP, hK, hD0⟩ := hv
  have hx := B.exec
  have hb := B.bytes
  have hr := B.returns
  have hta : ∀ w ∈ wAll, w.before ([.ref (b 0), .int w0, .int m0] : List Value).toArray s = true := fun w h => atoms_spec (ws := (Cond.code yM_begin bM_begin 4 none :: wAll)) B.pre w (List.mem_cons_of_mem _ h)
  have hown : s.vm.findClass "GroupRowsModel" = some m.cls := findClass_of_methodNamed B.named
  have hlocks := B.notSynchronized
  subst hsz
  have hD := hD0.self (sz := s.heap.size)
  generalize hAe : va_A (wM b d cd (nI wn) (nI mn) (nI T.1) ks2 ct2 sm2 le2 gr2 fk fa) s.heap.size = A at hD ⊢
  have hA : ∀ q : Nat, s.heap.size ≤ q → A q := fun q h => by rw [← hAe]; exact Or.inr h
  have hS : va_S A s.heap s.heap [] := va_S.rf
  have hP : va_P (dC, dI) classes (wM b d cd (nI wn) (nI mn) (nI T.1) ks2 ct2 sm2 le2 gr2 fk fa) s.heap := hP
  have hl := lv_entry ([.ref (b 0), .int w0, .int m0]) (n := 4) (Nat.le_of_ble_eq_true rfl)
  rw [lg_entry_eq]
  generalize (lg_sl ([.ref (b 0), .int w0, .int m0]) ++ List.replicate (4 - (lg_sl ([.ref (b 0), .int w0, .int m0])).length) Slot.unset).toArray = ls at hl ⊢
  have hl : lv_has ls 4 [(0, .ref (b 0)), (1, .int w0), (2, .int m0)] := hl
  obtain ⟨⟨hwn, hmn1, hmn, hn⟩, hk9, hc9, hv9, hs9⟩ := id hrep
  refine lv_aload_n hx hb dM_begin_0 rfl (lv_at hl 0 rfl) ?_
  refine lv_iload_n hx hb dM_begin_1 rfl (lv_at hl 1 rfl) ?_
  refine lv_if_lt (tgt := 22) hx hb dM_begin_2 (by decide) (fun h1 => ?_) (fun h1 => ?_)
  · skip
    refine lv_iconst (v := 1) hx hb dM_begin_22 (by decide) ?_
    refine lv_goto (tgt := 27) hx hb dM_begin_23 (by decide) ?_
    refine va_put (D := (dC, dI)) (ci := 1) (v := .int 1) (ty := .int) (C := "GroupRowsModel") (T := FM) (N := 11) hx hb hta inM tM tMok nM hown hK hP hD hS 0 rfl rfl 0 (by decide) (hta _ w280) (fun _ h9 => h9) rfl (by decide +kernel) rfl rfl (Nat.le_of_ble_eq_true rfl) dM_begin_27 (fun H locs hP hD hS => ?_)
    have hP : va_P (dC, dI) classes (wM b d 1 (nI wn) (nI mn) (nI T.1) ks2 ct2 sm2 le2 gr2 fk fa) H := hP
    have hD : va_D A (wM b d 1 (nI wn) (nI mn) (nI T.1) ks2 ct2 sm2 le2 gr2 fk fa) := hD
    refine lv_aload_n hx hb dM_begin_30 rfl (lv_at hl 0 rfl) ?_
    refine va_get (D := (dC, dI)) (ci := 1) (v := .int 1) (C := "GroupRowsModel") (T := FM) (N := 11) hx hb hta inM hown hK hP 0 rfl rfl 0 (by decide) (hta _ w280) (fun _ h9 => h9) rfl dM_begin_31 ?_
    refine lv_if_le (tgt := 38) hx hb dM_begin_34 (by decide) (fun hz => ?_) (fun hz => ?_)
    · skip
      exact absurd hz (by decide)
    · skip
      exact W.vret hx hb hr (fun t9 ht9 hW9 => ⟨⟨(), rfl, trivial, ⟨fun h9 => absurd h9 (fun q => absurd q.1.1 (Int32.not_le.mpr h1)), fun _ => ⟨_, _, _, _, _, hrep, by rw [ht9]; exact hP, va_K.moved hW9.alike hK, hD⟩⟩⟩, hS.F ht9⟩) hS.2.2 dM_begin_37
  · skip
    refine lv_iload_n hx hb dM_begin_5 rfl (lv_at hl 1 rfl) ?_
    refine lv_bipush (v := 8) hx hb dM_begin_6 (by decide) ?_
    refine lv_icmp_gt (tgt := 22) hx hb dM_begin_8 (by decide) (fun h2 => ?_) (fun h2 => ?_)
    · skip
      refine lv_iconst (v := 1) hx hb dM_begin_22 (by decide) ?_
      refine lv_goto (tgt := 27) hx hb dM_begin_23 (by decide) ?_
      refine va_put (D := (dC, dI)) (ci := 1) (v := .int 1) (ty := .int) (C := "GroupRowsModel") (T := FM) (N := 11) hx hb hta inM tM tMok nM hown hK hP hD hS 0 rfl rfl 0 (by decide) (hta _ w280) (fun _ h9 => h9) rfl (by decide +kernel) rfl rfl (Nat.le_of_ble_eq_true rfl) dM_begin_27 (fun H locs hP hD hS => ?_)
      have hP : va_P (dC, dI) classes (wM b d 1 (nI wn) (nI mn) (nI T.1) ks2 ct2 sm2 le2 gr2 fk fa) H := hP
      have hD : va_D A (wM b d 1 (nI wn) (nI mn) (nI T.1) ks2 ct2 sm2 le2 gr2 fk fa) := hD
      refine lv_aload_n hx hb dM_begin_30 rfl (lv_at hl 0 rfl) ?_
      refine va_get (D := (dC, dI)) (ci := 1) (v := .int 1) (C := "GroupRowsModel") (T := FM) (N := 11) hx hb hta inM hown hK hP 0 rfl rfl 0 (by decide) (hta _ w280) (fun _ h9 => h9) rfl dM_begin_31 ?_
      refine lv_if_le (tgt := 38) hx hb dM_begin_34 (by decide) (fun hz => ?_) (fun hz => ?_)
      · skip
        exact absurd hz (by decide)
      · skip
        exact W.vret hx hb hr (fun t9 ht9 hW9 => ⟨⟨(), rfl, trivial, ⟨fun h9 => absurd h9 (fun q => absurd q.1.2 (Int32.not_le.mpr h2)), fun _ => ⟨_, _, _, _, _, hrep, by rw [ht9]; exact hP, va_K.moved hW9.alike hK, hD⟩⟩⟩, hS.F ht9⟩) hS.2.2 dM_begin_37
    · skip
      refine lv_iload_n hx hb dM_begin_11 rfl (lv_at hl 2 rfl) ?_
      refine lv_iconst (v := 1) hx hb dM_begin_12 (by decide) ?_
      refine lv_icmp_lt (tgt := 22) hx hb dM_begin_13 (by decide) (fun h3 => ?_) (fun h3 => ?_)
      · skip
        refine lv_iconst (v := 1) hx hb dM_begin_22 (by decide) ?_
        refine lv_goto (tgt := 27) hx hb dM_begin_23 (by decide) ?_
        refine va_put (D := (dC, dI)) (ci := 1) (v := .int 1) (ty := .int) (C := "GroupRowsModel") (T := FM) (N := 11) hx hb hta inM tM tMok nM hown hK hP hD hS 0 rfl rfl 0 (by decide) (hta _ w280) (fun _ h9 => h9) rfl (by decide +kernel) rfl rfl (Nat.le_of_ble_eq_true rfl) dM_begin_27 (fun H locs hP hD hS => ?_)
        have hP : va_P (dC, dI) classes (wM b d 1 (nI wn) (nI mn) (nI T.1) ks2 ct2 sm2 le2 gr2 fk fa) H := hP
        have hD : va_D A (wM b d 1 (nI wn) (nI mn) (nI T.1) ks2 ct2 sm2 le2 gr2 fk fa) := hD
        refine lv_aload_n hx hb dM_begin_30 rfl (lv_at hl 0 rfl) ?_
        refine va_get (D := (dC, dI)) (ci := 1) (v := .int 1) (C := "GroupRowsModel") (T := FM) (N := 11) hx hb hta inM hown hK hP 0 rfl rfl 0 (by decide) (hta _ w280) (fun _ h9 => h9) rfl dM_begin_31 ?_
        refine lv_if_le (tgt := 38) hx hb dM_begin_34 (by decide) (fun hz => ?_) (fun hz => ?_)
        · skip
          exact absurd hz (by decide)
        · skip
          exact W.vret hx hb hr (fun t9 ht9 hW9 => ⟨⟨(), rfl, trivial, ⟨fun h9 => absurd h9 (fun q => absurd q.2.1 (Int32.not_le.mpr h3)), fun _ => ⟨_, _, _, _, _, hrep, by rw [ht9]; exact hP, va_K.moved hW9.alike hK, hD⟩⟩⟩, hS.F ht9⟩) hS.2.2 dM_begin_37
      · skip
        refine lv_iload_n hx hb dM_begin_16 rfl (lv_at hl 2 rfl) ?_
        refine lv_bipush (v := 8) hx hb dM_begin_17 (by decide) ?_
        refine lv_icmp_le (tgt := 26) hx hb dM_begin_19 (by decide) (fun h4 => ?_) (fun h4 => ?_)
        · skip
          refine lv_iconst (v := 0) hx hb dM_begin_26 (by decide) ?_
          refine va_put (D := (dC, dI)) (ci := 1) (v := .int 0) (ty := .int) (C := "GroupRowsModel") (T := FM) (N := 11) hx hb hta inM tM tMok nM hown hK hP hD hS 0 rfl rfl 0 (by decide) (hta _ w280) (fun _ h9 => h9) rfl (by decide +kernel) rfl rfl (Nat.le_of_ble_eq_true rfl) dM_begin_27 (fun H locs hP hD hS => ?_)
          have hP : va_P (dC, dI) classes (wM b d 0 (nI wn) (nI mn) (nI T.1) ks2 ct2 sm2 le2 gr2 fk fa) H := hP
          have hD : va_D A (wM b d 0 (nI wn) (nI mn) (nI T.1) ks2 ct2 sm2 le2 gr2 fk fa) := hD
          refine lv_aload_n hx hb dM_begin_30 rfl (lv_at hl 0 rfl) ?_
          refine va_get (D := (dC, dI)) (ci := 1) (v := .int 0) (C := "GroupRowsModel") (T := FM) (N := 11) hx hb hta inM hown hK hP 0 rfl rfl 0 (by decide) (hta _ w280) (fun _ h9 => h9) rfl dM_begin_31 ?_
          refine lv_if_le (tgt := 38) hx hb dM_begin_34 (by decide) (fun hz => ?_) (fun hz => ?_)
          rotate_left
          · skip
            exact absurd (by decide) hz
          · skip
            have hL : (0 ≤ w0 ∧ w0 ≤ 8) ∧ 1 ≤ m0 ∧ m0 ≤ 8 := ⟨⟨Int32.not_lt.mp h1, Int32.not_lt.mp h2⟩, Int32.not_lt.mp h3, h4⟩
            obtain ⟨j0, hj0, ej0, cj0⟩ := in_le (n := 8) (by decide) hL.1
            obtain ⟨j2, hj2, ej2, cj2⟩ := in_le (n := 8) (by decide) ⟨i32_0le1 hL.2.1, hL.2.2⟩
            subst ej0
            subst ej2
            have hj1 : 1 ≤ j2 := nI_1le (by omega) hL.2.1
            have hr9 : repT (fun p => p) j0 j2 (0, T.2) ks2 ct2 sm2 le2 gr2 := ⟨⟨hj0, hj1, hj2, Nat.zero_le _⟩, fun p hp => absurd hp (Nat.not_lt_zero p), fun p hp => absurd hp (Nat.not_lt_zero p), fun p m hp => absurd hp (Nat.not_lt_zero p), fun p q _ h => absurd h (Nat.not_lt_zero q)⟩
            refine lv_aload_n hx hb dM_begin_38 rfl (lv_at hl 0 rfl) ?_
            refine lv_iload_n hx hb dM_begin_39 rfl (lv_at hl 1 rfl) ?_
            refine va_put (D := (dC, dI)) (ci := 1) (v := .int (nI j0)) (ty := .int) (C := "GroupRowsModel") (T := FM) (N := 11) hx hb hta inM tM tMok nM hown hK hP hD hS 0 rfl rfl 1 (by decide) (hta _ w281) (fun _ h9 => h9) rfl (by decide +kernel) rfl rfl (Nat.le_of_ble_eq_true rfl) dM_begin_40 (fun H locs hP hD hS => ?_)
            have hP : va_P (dC, dI) classes (wM b d 0 (nI j0) (nI mn) (nI T.1) ks2 ct2 sm2 le2 gr2 fk fa) H := hP
            have hD : va_D A (wM b d 0 (nI j0) (nI mn) (nI T.1) ks2 ct2 sm2 le2 gr2 fk fa) := hD
            refine lv_aload_n hx hb dM_begin_43 rfl (lv_at hl 0 rfl) ?_
            refine lv_iload_n hx hb dM_begin_44 rfl (lv_at hl 2 rfl) ?_
            refine va_put (D := (dC, dI)) (ci := 1) (v := .int (nI j2)) (ty := .int) (C := "GroupRowsModel") (T := FM) (N := 11) hx hb hta inM tM tMok nM hown hK hP hD hS 0 rfl rfl 2 (by decide) (hta _ w282) (fun _ h9 => h9) rfl (by decide +kernel) rfl rfl (Nat.le_of_ble_eq_true rfl) dM_begin_45 (fun H locs hP hD hS => ?_)
            have hP : va_P (dC, dI) classes (wM b d 0 (nI j0) (nI j2) (nI T.1) ks2 ct2 sm2 le2 gr2 fk fa) H := hP
            have hD : va_D A (wM b d 0 (nI j0) (nI j2) (nI T.1) ks2 ct2 sm2 le2 gr2 fk fa) := hD
            refine lv_aload_n hx hb dM_begin_48 rfl (lv_at hl 0 rfl) ?_
            refine lv_iconst (v := 0) hx hb dM_begin_49 (by decide) ?_
            refine gi_as (y := nI 0) (nI_0.symm) ?_
            refine va_put (D := (dC, dI)) (ci := 1) (v := .int (nI 0)) (ty := .int) (C := "GroupRowsModel") (T := FM) (N := 11) hx hb hta inM tM tMok nM hown hK hP hD hS 0 rfl rfl 3 (by decide) (hta _ w283) (fun _ h9 => h9) rfl (by decide +kernel) rfl rfl (Nat.le_of_ble_eq_true rfl) dM_begin_50 (fun H locs hP hD hS => ?_)
            have hP : va_P (dC, dI) classes (wM b d 0 (nI j0) (nI j2) (nI 0) ks2 ct2 sm2 le2 gr2 fk fa) H := hP
            have hD : va_D A (wM b d 0 (nI j0) (nI j2) (nI 0) ks2 ct2 sm2 le2 gr2 fk fa) := hD
            refine lv_iconst (v := 0) hx hb dM_begin_53 (by decide) ?_
            refine gi_as (y := nI 0) (nI_0.symm) ?_
            refine lv_istore_n (lv' := [(3, .int (nI 0)), (0, .ref (b 0)), (1, .int (nI j0)), (2, .int (nI j2))]) hx hb dM_begin_54 rfl hl (by decide) rfl (fun ls hl => ?_)
            have loop : ∀ (kk j : Nat), j + kk = 8 → ∀ (H : Heap) (locs : List Loc), va_P (dC, dI) classes (wM b d 0 (nI j0) (nI j2) (nI 0) ks2 ct2 sm2 le2 gr2 (upToI (fun _ _ => 0) 0 fk j) (upTo (fun _ _ => 0) 0 fa j)) H → va_D A (wM b d 0 (nI j0) (nI j2) (nI 0) ks2 ct2 sm2 le2 gr2 (upToI (fun _ _ => 0) 0 fk j) (upTo (fun _ _ => 0) 0 fa j)) → va_S A s.heap H locs → ∀ (ls : Array Slot), lv_has ls 4 [(3, .int (nI j)), (0, .ref (b 0))] → W p l e (headSpec (Cond.code yM_begin bM_begin 4 none :: wAll) { frames := 3, cells := 0, slots := 0, locals := 128 }).room s m ([.ref (b 0), .int (nI j0), .int (nI j2)] : List Value).toArray below meth c H locs 0 0 (MQ below (va_Qv (fun _ : Unit => True) (fun (_ : Unit) (t9 : State) => (((0 ≤ nI j0 ∧ nI j0 ≤ 8) ∧ 1 ≤ nI j2 ∧ nI j2 ≤ 8) → atM dC dI A b d 0 (nI j0).toNatClampNeg (nI j2).toNatClampNeg (upToI (fun _ _ => 0) 0 fk 8) (upTo (fun _ _ => 0) 0 fa 8) (0, T.2) t9) ∧ (¬ ((0 ≤ nI j0 ∧ nI j0 ≤ 8) ∧ 1 ≤ nI j2 ∧ nI j2 ≤ 8) → atM dC dI A b d 1 wn mn fk fa T t9)) A) ([.ref (b 0), .int (nI j0), .int (nI j2)] : List Value).toArray s 0 0 A) (F0 m 55 ls []) := by
              intro kk
              induction kk with
              | zero =>
                intro j hj H locs hP hD hS ls hl
                refine lv_iload_n hx hb dM_begin_55 rfl (lv_at hl 0 rfl) ?_
                refine lv_bipush (v := 8) hx hb dM_begin_56 (by decide) ?_
                refine gi_as (y := nI 8) (rfl) ?_
                refine lv_icmp_ge (tgt := 81) hx hb dM_begin_58 (by decide) (fun h9 => ?_) (fun h9 => ?_)
                · skip
                  have hj : 8 = j := by omega
                  subst hj
                  exact W.vret hx hb hr (fun t9 ht9 hW9 => ⟨⟨(), rfl, trivial, ⟨fun _ => by rw [cj0, cj2]; exact ⟨_, _, _, _, _, hr9, by rw [ht9]; exact hP, va_K.moved hW9.alike hK, hD⟩, fun h9 => absurd (hL) h9⟩⟩, hS.F ht9⟩) hS.2.2 dM_begin_81
                · skip
                  exact absurd (nI_le (by omega) (by omega)) h9
              | succ kk ih =>
                intro j hj H locs hP hD hS ls hl
                refine lv_iload_n hx hb dM_begin_55 rfl (lv_at hl 0 rfl) ?_
                refine lv_bipush (v := 8) hx hb dM_begin_56 (by decide) ?_
                refine gi_as (y := nI 8) (rfl) ?_
                refine lv_icmp_ge (tgt := 81) hx hb dM_begin_58 (by decide) (fun h9 => ?_) (fun h9 => ?_)
                · skip
                  exact absurd h9 (nI_ge (a := j) (by omega) (by omega))
                · skip
                  have e0 : j = 0 + j := by omega
                  refine lv_aload_n hx hb dM_begin_61 rfl (lv_at hl 1 rfl) ?_
                  refine va_get (D := (dC, dI)) (ci := 1) (v := .ref (b 6)) (C := "GroupRowsModel") (T := FM) (N := 11) hx hb hta inM hown hK hP 0 rfl rfl 9 (by decide) (hta _ w289) (fun _ h9 => h9) rfl dM_begin_62 ?_
                  refine lv_iload_n hx hb dM_begin_65 rfl (lv_at hl 0 rfl) ?_
                  refine gi_as (y := nI (0 + j)) (by rw [← e0]) ?_
                  refine lv_iconst (v := 0) hx hb dM_begin_66 (by decide) ?_
                  refine gi_iast hx hb hK hP hD hS 6 5 rfl rfl (k := (0 + j)) (by omega) (by decide) dM_begin_67 (fun H locs hP hD hS => ?_)
                  have hP : va_P (dC, dI) classes (wM b d 0 (nI j0) (nI j2) (nI 0) ks2 ct2 sm2 le2 gr2 (upd (upToI (fun _ _ => 0) 0 fk j) (0 + j) 0) (upTo (fun _ _ => 0) 0 fa j)) H := hP
                  have hD : va_D A (wM b d 0 (nI j0) (nI j2) (nI 0) ks2 ct2 sm2 le2 gr2 (upd (upToI (fun _ _ => 0) 0 fk j) (0 + j) 0) (upTo (fun _ _ => 0) 0 fa j)) := hD
                  refine lv_aload_n hx hb dM_begin_68 rfl (lv_at hl 1 rfl) ?_
                  refine va_get (D := (dC, dI)) (ci := 1) (v := .ref (b 7)) (C := "GroupRowsModel") (T := FM) (N := 11) hx hb hta inM hown hK hP 0 rfl rfl 10 (by decide) (hta _ w290) (fun _ h9 => h9) rfl dM_begin_69 ?_
                  refine lv_iload_n hx hb dM_begin_72 rfl (lv_at hl 0 rfl) ?_
                  refine gi_as (y := nI (0 + j)) (by rw [← e0]) ?_
                  refine lv_lconst (v := 0) hx hb dM_begin_73 (by decide) ?_
                  refine gi_last hx hb hK hP hD hS 7 6 rfl rfl (k := (0 + j)) (by omega) (by decide) dM_begin_74 (fun H locs hP hD hS => ?_)
                  have hP : va_P (dC, dI) classes (wM b d 0 (nI j0) (nI j2) (nI 0) ks2 ct2 sm2 le2 gr2 (upd (upToI (fun _ _ => 0) 0 fk j) (0 + j) 0) (vp_updL (upTo (fun _ _ => 0) 0 fa j) (0 + j) 0)) H := hP
                  have hD : va_D A (wM b d 0 (nI j0) (nI j2) (nI 0) ks2 ct2 sm2 le2 gr2 (upd (upToI (fun _ _ => 0) 0 fk j) (0 + j) 0) (vp_updL (upTo (fun _ _ => 0) 0 fa j) (0 + j) 0)) := hD
                  refine lv_iinc (v := (nI (j + 1))) (lv' := [(3, .int (nI (j + 1))), (0, .ref (b 0))]) hx hb dM_begin_75 hl (k := 0) rfl (nI_1 _) (by decide) rfl (fun ls hl => ?_)
                  refine lv_goto (tgt := 55) hx hb dM_begin_78 (by decide) ?_
                  have hl := lv_sub hl [0, 1] rfl
                  have hl : lv_has ls 4 [(3, .int (nI (j + 1))), (0, .ref (b 0))] := hl
                  exact ih (j + 1) (by omega) H locs hP hD hS ls hl
            have hl := lv_sub hl [0, 1] rfl
            have hl : lv_has ls 4 [(3, .int (nI 0)), (0, .ref (b 0))] := hl
            exact loop 8 0 (by omega) H locs hP hD hS ls hl
        · skip
          refine lv_iconst (v := 1) hx hb dM_begin_22 (by decide) ?_
          refine lv_goto (tgt := 27) hx hb dM_begin_23 (by decide) ?_
          refine va_put (D := (dC, dI)) (ci := 1) (v := .int 1) (ty := .int) (C := "GroupRowsModel") (T := FM) (N := 11) hx hb hta inM tM tMok nM hown hK hP hD hS 0 rfl rfl 0 (by decide) (hta _ w280) (fun _ h9 => h9) rfl (by decide +kernel) rfl rfl (Nat.le_of_ble_eq_true rfl) dM_begin_27 (fun H locs hP hD hS => ?_)
          have hP : va_P (dC, dI) classes (wM b d 1 (nI wn) (nI mn) (nI T.1) ks2 ct2 sm2 le2 gr2 fk fa) H := hP
          have hD : va_D A (wM b d 1 (nI wn) (nI mn) (nI T.1) ks2 ct2 sm2 le2 gr2 fk fa) := hD
          refine lv_aload_n hx hb dM_begin_30 rfl (lv_at hl 0 rfl) ?_
          refine va_get (D := (dC, dI)) (ci := 1) (v := .int 1) (C := "GroupRowsModel") (T := FM) (N := 11) hx hb hta inM hown hK hP 0 rfl rfl 0 (by decide) (hta _ w280) (fun _ h9 => h9) rfl dM_begin_31 ?_
          refine lv_if_le (tgt := 38) hx hb dM_begin_34 (by decide) (fun hz => ?_) (fun hz => ?_)
          · skip
            exact absurd hz (by decide)
          · skip
            exact W.vret hx hb hr (fun t9 ht9 hW9 => ⟨⟨(), rfl, trivial, ⟨fun h9 => absurd h9 (fun q => h4 q.2.2), fun _ => ⟨_, _, _, _, _, hrep, by rw [ht9]; exact hP, va_K.moved hW9.alike hK, hD⟩⟩⟩, hS.F ht9⟩) hS.2.2 dM_begin_37
set_option maxHeartbeats 4000000 in
set_option maxRecDepth 100000 in
theorem c_Madd (l : Launch) (dC : Nat → ClassId) (dI : Nat → Nat → Nat) (b : Nat → Nat) (d : Nat → ClassId) (cd : Int32) (wn mn : Nat) (fk : Nat → Int32) (fa : Nat → Int64) (T : TB) (ks2 : Nat → Int32) (ct2 sm2 le2 gr2 : Nat → Int64) (hrep : repT (fun p => p) wn mn T ks2 ct2 sm2 le2 gr2) (nn : Int32) (sz : Nat)  : Met l yM_add (Cond.code yM_add bM_add 2 (some .int) :: wAll) { frames := 3, cells := 0, slots := 0, locals := 128 } (va_Pc [.ref (b 0), .int nn] (fun U => U.heap.size = sz ∧ va_P (dC, dI) classes (wM b d cd (nI wn) (nI mn) (nI T.1) ks2 ct2 sm2 le2 gr2 fk fa) U.heap ∧ va_K (dC, dI) classes (kM d) U ∧ va_D (fun _ => True) (wM b d cd (nI wn) (nI mn) (nI T.1) ks2 ct2 sm2 le2 gr2 fk fa))) (va_Qi (fun (r9 : Int32) (_ : Unit) => r9 = (if 1 ≤ nn ∧ nn ≤ 100000 then (if (takeT wn fk fa nn.toInt64 T).2 = true then nI (takeT wn fk fa nn.toInt64 T).1.1 else (-2)) else 0)) (fun (_ : Unit) (t9 : State) => ((1 ≤ nn ∧ nn ≤ 100000) → atM dC dI (va_A (wM b d cd (nI wn) (nI mn) (nI T.1) ks2 ct2 sm2 le2 gr2 fk fa) sz) b d 0 wn mn fk fa (takeT wn fk fa nn.toInt64 T).1 t9) ∧ (¬ (1 ≤ nn ∧ nn ≤ 100000) → atM dC dI (va_A (wM b d cd (nI wn) (nI mn) (nI T.1) ks2 ct2 sm2 le2 gr2 fk fa) sz) b d 1 wn mn fk fa T t9)) (va_A (wM b d cd (nI wn) (nI mn) (nI T.1) ks2 ct2 sm2 le2 gr2 fk fa) sz)) 0 0 (va_A (wM b d cd (nI wn) (nI mn) (nI T.1) ks2 ct2 sm2 le2 gr2 fk fa) sz) := by
  refine Met.ofW (cc := bM_add) (maxL := 2) (ret := (some .int)) (by decide) rfl ?_
  intro p e s m args below meth c s₁ B hml hv
  obtain ⟨rfl, hsz, hP, hK, hD0⟩ := hv
  have hx := B.exec
  have hb := B.bytes
  have hr := B.returns
  have hta : ∀ w ∈ wAll, w.before ([.ref (b 0), .int nn] : List Value).toArray s = true := fun w h => atoms_spec (ws := (Cond.code yM_add bM_add 2 (some .int) :: wAll)) B.pre w (List.mem_cons_of_mem _ h)
  have hown : s.vm.findClass "GroupRowsModel" = some m.cls := findClass_of_methodNamed B.named
  have hlocks := B.notSynchronized
  subst hsz
  have hD := hD0.self (sz := s.heap.size)
  generalize hAe : va_A (wM b d cd (nI wn) (nI mn) (nI T.1) ks2 ct2 sm2 le2 gr2 fk fa) s.heap.size = A at hD ⊢
  have hA : ∀ q : Nat, s.heap.size ≤ q → A q := fun q h => by rw [← hAe]; exact Or.inr h
  have hS : va_S A s.heap s.heap [] := va_S.rf
  have hP : va_P (dC, dI) classes (wM b d cd (nI wn) (nI mn) (nI T.1) ks2 ct2 sm2 le2 gr2 fk fa) s.heap := hP
  have hl := lv_entry ([.ref (b 0), .int nn]) (n := 2) (Nat.le_of_ble_eq_true rfl)
  rw [lg_entry_eq]
  generalize (lg_sl ([.ref (b 0), .int nn]) ++ List.replicate (2 - (lg_sl ([.ref (b 0), .int nn])).length) Slot.unset).toArray = ls at hl ⊢
  have hl : lv_has ls 2 [(0, .ref (b 0)), (1, .int nn)] := hl
  obtain ⟨⟨hwn, hmn1, hmn, hn⟩, hk9, hc9, hv9, hs9⟩ := id hrep
  refine lv_aload_n hx hb dM_add_0 rfl (lv_at hl 0 rfl) ?_
  refine lv_iload_n hx hb dM_add_1 rfl (lv_at hl 1 rfl) ?_
  refine lv_iconst (v := 1) hx hb dM_add_2 (by decide) ?_
  refine lv_icmp_lt (tgt := 12) hx hb dM_add_3 (by decide) (fun h1 => ?_) (fun h1 => ?_)
  · skip
    refine lv_iconst (v := 1) hx hb dM_add_12 (by decide) ?_
    refine lv_goto (tgt := 17) hx hb dM_add_13 (by decide) ?_
    refine va_put (D := (dC, dI)) (ci := 1) (v := .int 1) (ty := .int) (C := "GroupRowsModel") (T := FM) (N := 11) hx hb hta inM tM tMok nM hown hK hP hD hS 0 rfl rfl 0 (by decide) (hta _ w280) (fun _ h9 => h9) rfl (by decide +kernel) rfl rfl (Nat.le_of_ble_eq_true rfl) dM_add_17 (fun H locs hP hD hS => ?_)
    have hP : va_P (dC, dI) classes (wM b d 1 (nI wn) (nI mn) (nI T.1) ks2 ct2 sm2 le2 gr2 fk fa) H := hP
    have hD : va_D A (wM b d 1 (nI wn) (nI mn) (nI T.1) ks2 ct2 sm2 le2 gr2 fk fa) := hD
    refine lv_aload_n hx hb dM_add_20 rfl (lv_at hl 0 rfl) ?_
    refine va_get (D := (dC, dI)) (ci := 1) (v := .int 1) (C := "GroupRowsModel") (T := FM) (N := 11) hx hb hta inM hown hK hP 0 rfl rfl 0 (by decide) (hta _ w280) (fun _ h9 => h9) rfl dM_add_21 ?_
    refine lv_if_le (tgt := 29) hx hb dM_add_24 (by decide) (fun hz => ?_) (fun hz => ?_)
    · skip
      exact absurd hz (by decide)
    · skip
      refine lv_iconst (v := 0) hx hb dM_add_27 (by decide) ?_
      exact W.iret (v := 0) hx hb hr (fun t9 ht9 hW9 => ⟨⟨0, (), rfl, (if_neg (fun q => absurd q.1 (Int32.not_le.mpr h1))).symm, ⟨fun h9 => absurd h9 (fun q => absurd q.1 (Int32.not_le.mpr h1)), fun _ => ⟨_, _, _, _, _, hrep, by rw [ht9]; exact hP, va_K.moved hW9.alike hK, hD⟩⟩⟩, hS.F ht9⟩) hS.2.2 dM_add_28
  · skip
    refine lv_iload_n hx hb dM_add_6 rfl (lv_at hl 1 rfl) ?_
    refine lv_ldc (v := 100000) hx hb hown (hta _ w334) dM_add_7 ?_
    refine lv_icmp_le (tgt := 16) hx hb dM_add_9 (by decide) (fun h2 => ?_) (fun h2 => ?_)
    · skip
      refine lv_iconst (v := 0) hx hb dM_add_16 (by decide) ?_
      refine va_put (D := (dC, dI)) (ci := 1) (v := .int 0) (ty := .int) (C := "GroupRowsModel") (T := FM) (N := 11) hx hb hta inM tM tMok nM hown hK hP hD hS 0 rfl rfl 0 (by decide) (hta _ w280) (fun _ h9 => h9) rfl (by decide +kernel) rfl rfl (Nat.le_of_ble_eq_true rfl) dM_add_17 (fun H locs hP hD hS => ?_)
      have hP : va_P (dC, dI) classes (wM b d 0 (nI wn) (nI mn) (nI T.1) ks2 ct2 sm2 le2 gr2 fk fa) H := hP
      have hD : va_D A (wM b d 0 (nI wn) (nI mn) (nI T.1) ks2 ct2 sm2 le2 gr2 fk fa) := hD
      refine lv_aload_n hx hb dM_add_20 rfl (lv_at hl 0 rfl) ?_
      refine va_get (D := (dC, dI)) (ci := 1) (v := .int 0) (C := "GroupRowsModel") (T := FM) (N := 11) hx hb hta inM hown hK hP 0 rfl rfl 0 (by decide) (hta _ w280) (fun _ h9 => h9) rfl dM_add_21 ?_
      refine lv_if_le (tgt := 29) hx hb dM_add_24 (by decide) (fun hz => ?_) (fun hz => ?_)
      rotate_left
      · skip
        exact absurd (by decide) hz
      · skip
        have hL : 1 ≤ nn ∧ nn ≤ 100000 := ⟨Int32.not_lt.mp h1, h2⟩
        refine lv_aload_n hx hb dM_add_29 rfl (lv_at hl 0 rfl) ?_
        refine lv_iload_n hx hb dM_add_30 rfl (lv_at hl 1 rfl) ?_
        have hPc := hP
        have hDc := hD
        have hKc := hK
        have hFc := va_free (wc := (wM b d 0 (nI wn) (nI mn) (nI T.1) ks2 ct2 sm2 le2 gr2 fk fa)) hD hS hA [0, 1, 2, 3, 4, 5, 6, 7] rfl
        refine va_calli (va_runV (As := [.int nn]) (rest := []) ⟨hx, hb, hml, hown, hta⟩ (c_comes l dC dI b d 0 wn mn fk fa T ks2 ct2 sm2 le2 gr2 hrep nn H.size) (cwV 1 hta (gV w335 w337 sM_comes w2 w338) rfl rfl rfl (by decide +kernel) ⟨Nat.le_of_ble_eq_true rfl, Nat.le_of_ble_eq_true rfl⟩) ⟨gb_W, va_recv hKc hPc (ci := 1) (q0 := 0) rfl rfl, fun U hU hW => ⟨rfl, by rw [hU], by rw [hU]; exact hPc, va_K.moved hW.alike hKc, hDc.weaken (fun _ _ _ _ => trivial)⟩⟩ rfl rfl hl.1 rfl (lv_room (Nat.le_of_ble_eq_true rfl)) dM_add_31 ⟨Nat.le_of_ble_eq_true rfl, Nat.le_of_ble_eq_true rfl⟩) hS (fun q _ h => hFc q h) hFc (fun r_9 u t H1 locs ht hvm hw hB hz1 hk1 hS => ?_)
        obtain ⟨ks21, ct21, sm21, le21, gr21, hr1, hP1, hK1, hD1⟩ := hB
        rw [ht] at hP1
        obtain ⟨hP, hD⟩ := va_join (wr := []) (w1 := (wM b d 0 (nI wn) (nI mn) (nI (takeT wn fk fa nn.toInt64 T).1.1) ks21 ct21 sm21 le21 gr21 fk fa)) hP hD [0, 1, 2, 3, 4, 5, 6, 7] [] rfl rfl (by decide) (by decide) hk1 hFc hP1 hD1
        generalize H1 = H at hP hS ⊢
        have hP : va_P (dC, dI) classes (wM b d 0 (nI wn) (nI mn) (nI (takeT wn fk fa nn.toInt64 T).1.1) ks21 ct21 sm21 le21 gr21 fk fa) H := hP
        have hD : va_D A (wM b d 0 (nI wn) (nI mn) (nI (takeT wn fk fa nn.toInt64 T).1.1) ks21 ct21 sm21 le21 gr21 fk fa) := hD
        refine lv_if_eq (tgt := 44) hx hb dM_add_34 (by decide) (fun h3 => ?_) (fun h3 => ?_)
        · skip
          rw [hw] at h3
          have hb9 : ¬ (takeT wn fk fa nn.toInt64 T).2 = true := fun q => by rw [if_pos q] at h3; exact absurd h3 (by decide)
          refine lv_bipush (v := (-2)) hx hb dM_add_44 (by decide) ?_
          exact W.iret (v := (-2)) hx hb hr (fun t9 ht9 hW9 => ⟨⟨(-2), (), rfl, by rw [if_pos hL, if_neg hb9], ⟨fun _ => ⟨_, _, _, _, _, hr1, by rw [ht9]; exact hP, va_K.moved hW9.alike hK, hD⟩, fun h9 => absurd (hL) h9⟩⟩, hS.F ht9⟩) hS.2.2 dM_add_46
        · skip
          rw [hw] at h3
          have hb9 : (takeT wn fk fa nn.toInt64 T).2 = true := by
            by_cases q : (takeT wn fk fa nn.toInt64 T).2 = true
            · exact q
            · rw [if_neg q] at h3; exact absurd rfl h3
          refine lv_aload_n hx hb dM_add_37 rfl (lv_at hl 0 rfl) ?_
          refine va_get (D := (dC, dI)) (ci := 1) (v := .int (nI (takeT wn fk fa nn.toInt64 T).1.1)) (C := "GroupRowsModel") (T := FM) (N := 11) hx hb hta inM hown hK hP 0 rfl rfl 3 (by decide) (hta _ w283) (fun _ h9 => h9) rfl dM_add_38 ?_
          refine lv_goto (tgt := 46) hx hb dM_add_41 (by decide) ?_
          exact W.iret (v := (nI (takeT wn fk fa nn.toInt64 T).1.1)) hx hb hr (fun t9 ht9 hW9 => ⟨⟨(nI (takeT wn fk fa nn.toInt64 T).1.1), (), rfl, by rw [if_pos hL, if_pos hb9], ⟨fun _ => ⟨_, _, _, _, _, hr1, by rw [ht9]; exact hP, va_K.moved hW9.alike hK, hD⟩, fun h9 => absurd (hL) h9⟩⟩, hS.F ht9⟩) hS.2.2 dM_add_46
    · skip
      refine lv_iconst (v := 1) hx hb dM_add_12 (by decide) ?_
      refine lv_goto (tgt := 17) hx hb dM_add_13 (by decide) ?_
      refine va_put (D := (dC, dI)) (ci := 1) (v := .int 1) (ty := .int) (C := "GroupRowsModel") (T := FM) (N := 11) hx hb hta inM tM tMok nM hown hK hP hD hS 0 rfl rfl 0 (by decide) (hta _ w280) (fun _ h9 => h9) rfl (by decide +kernel) rfl rfl (Nat.le_of_ble_eq_true rfl) dM_add_17 (fun H locs hP hD hS => ?_)
      have hP : va_P (dC, dI) classes (wM b d 1 (nI wn) (nI mn) (nI T.1) ks2 ct2 sm2 le2 gr2 fk fa) H := hP
      have hD : va_D A (wM b d 1 (nI wn) (nI mn) (nI T.1) ks2 ct2 sm2 le2 gr2 fk fa) := hD
      refine lv_aload_n hx hb dM_add_20 rfl (lv_at hl 0 rfl) ?_
      refine va_get (D := (dC, dI)) (ci := 1) (v := .int 1) (C := "GroupRowsModel") (T := FM) (N := 11) hx hb hta inM hown hK hP 0 rfl rfl 0 (by decide) (hta _ w280) (fun _ h9 => h9) rfl dM_add_21 ?_
      refine lv_if_le (tgt := 29) hx hb dM_add_24 (by decide) (fun hz => ?_) (fun hz => ?_)
      · skip
        exact absurd hz (by decide)
      · skip
        refine lv_iconst (v := 0) hx hb dM_add_27 (by decide) ?_
        exact W.iret (v := 0) hx hb hr (fun t9 ht9 hW9 => ⟨⟨0, (), rfl, (if_neg (fun q => h2 q.2)).symm, ⟨fun h9 => absurd h9 (fun q => h2 q.2), fun _ => ⟨_, _, _, _, _, hrep, by rw [ht9]; exact hP, va_K.moved hW9.alike hK, hD⟩⟩⟩, hS.F ht9⟩) hS.2.2 dM_add_28
set_option maxHeartbeats 4000000 in
set_option maxRecDepth 100000 in
theorem c_Mrows (l : Launch) (dC : Nat → ClassId) (dI : Nat → Nat → Nat) (b : Nat → Nat) (d : Nat → ClassId) (cd : Int32) (wn mn : Nat) (fk : Nat → Int32) (fa : Nat → Int64) (T : TB) (ks2 : Nat → Int32) (ct2 sm2 le2 gr2 : Nat → Int64) (hrep : repT (fun p => p) wn mn T ks2 ct2 sm2 le2 gr2) (sz : Nat)  : Met l yM_rows (Cond.code yM_rows bM_rows 1 (some .int) :: wAll) { frames := 3, cells := 0, slots := 0, locals := 128 } (va_Pc [.ref (b 0)] (fun U => U.heap.size = sz ∧ va_P (dC, dI) classes (wM b d cd (nI wn) (nI mn) (nI T.1) ks2 ct2 sm2 le2 gr2 fk fa) U.heap ∧ va_K (dC, dI) classes (kM d) U ∧ va_D (fun _ => True) (wM b d cd (nI wn) (nI mn) (nI T.1) ks2 ct2 sm2 le2 gr2 fk fa))) (va_Qi (fun (r9 : Int32) (_ : Unit) => r9 = (nI T.1)) (fun (_ : Unit) (t9 : State) => atM dC dI (va_A (wM b d cd (nI wn) (nI mn) (nI T.1) ks2 ct2 sm2 le2 gr2 fk fa) sz) b d 0 wn mn fk fa T t9) (va_A (wM b d cd (nI wn) (nI mn) (nI T.1) ks2 ct2 sm2 le2 gr2 fk fa) sz)) 0 0 (va_A (wM b d cd (nI wn) (nI mn) (nI T.1) ks2 ct2 sm2 le2 gr2 fk fa) sz) := by
  refine Met.ofW (cc := bM_rows) (maxL := 1) (ret := (some .int)) (by decide) rfl ?_
  intro p e s m args below meth c s₁ B hml hv
  obtain ⟨rfl, hsz, hP, hK, hD0⟩ := hv
  have hx := B.exec
  have hb := B.bytes
  have hr := B.returns
  have hta : ∀ w ∈ wAll, w.before ([.ref (b 0)] : List Value).toArray s = true := fun w h => atoms_spec (ws := (Cond.code yM_rows bM_rows 1 (some .int) :: wAll)) B.pre w (List.mem_cons_of_mem _ h)
  have hown : s.vm.findClass "GroupRowsModel" = some m.cls := findClass_of_methodNamed B.named
  have hlocks := B.notSynchronized
  subst hsz
  have hD := hD0.self (sz := s.heap.size)
  generalize hAe : va_A (wM b d cd (nI wn) (nI mn) (nI T.1) ks2 ct2 sm2 le2 gr2 fk fa) s.heap.size = A at hD ⊢
  have hA : ∀ q : Nat, s.heap.size ≤ q → A q := fun q h => by rw [← hAe]; exact Or.inr h
  have hS : va_S A s.heap s.heap [] := va_S.rf
  have hP : va_P (dC, dI) classes (wM b d cd (nI wn) (nI mn) (nI T.1) ks2 ct2 sm2 le2 gr2 fk fa) s.heap := hP
  have hl := lv_entry ([.ref (b 0)]) (n := 1) (Nat.le_of_ble_eq_true rfl)
  rw [lg_entry_eq]
  generalize (lg_sl ([.ref (b 0)]) ++ List.replicate (1 - (lg_sl ([.ref (b 0)])).length) Slot.unset).toArray = ls at hl ⊢
  have hl : lv_has ls 1 [(0, .ref (b 0))] := hl
  refine lv_aload_n hx hb dM_rows_0 rfl (lv_at hl 0 rfl) ?_
  refine lv_iconst (v := 0) hx hb dM_rows_1 (by decide) ?_
  refine va_put (D := (dC, dI)) (ci := 1) (v := .int 0) (ty := .int) (C := "GroupRowsModel") (T := FM) (N := 11) hx hb hta inM tM tMok nM hown hK hP hD hS 0 rfl rfl 0 (by decide) (hta _ w280) (fun _ h9 => h9) rfl (by decide +kernel) rfl rfl (Nat.le_of_ble_eq_true rfl) dM_rows_2 (fun H locs hP hD hS => ?_)
  have hP : va_P (dC, dI) classes (wM b d 0 (nI wn) (nI mn) (nI T.1) ks2 ct2 sm2 le2 gr2 fk fa) H := hP
  have hD : va_D A (wM b d 0 (nI wn) (nI mn) (nI T.1) ks2 ct2 sm2 le2 gr2 fk fa) := hD
  refine lv_aload_n hx hb dM_rows_5 rfl (lv_at hl 0 rfl) ?_
  refine va_get (D := (dC, dI)) (ci := 1) (v := .int (nI T.1)) (C := "GroupRowsModel") (T := FM) (N := 11) hx hb hta inM hown hK hP 0 rfl rfl 3 (by decide) (hta _ w283) (fun _ h9 => h9) rfl dM_rows_6 ?_
  exact W.iret (v := (nI T.1)) hx hb hr (fun t9 ht9 hW9 => ⟨⟨(nI T.1), (), rfl, rfl, ⟨_, _, _, _, _, hrep, by rw [ht9]; exact hP, va_K.moved hW9.alike hK, hD⟩⟩, hS.F ht9⟩) hS.2.2 dM_rows_9
set_option maxHeartbeats 4000000 in
set_option maxRecDepth 100000 in
theorem c_Mfind (l : Launch) (dC : Nat → ClassId) (dI : Nat → Nat → Nat) (b : Nat → Nat) (d : Nat → ClassId) (cd : Int32) (wn mn : Nat) (fk : Nat → Int32) (fa : Nat → Int64) (T : TB) (ks2 : Nat → Int32) (ct2 sm2 le2 gr2 : Nat → Int64) (hrep : repT (fun p => p) wn mn T ks2 ct2 sm2 le2 gr2) (sz : Nat)  : Met l yM_find (Cond.code yM_find bM_find 2 (some .int) :: wAll) { frames := 3, cells := 0, slots := 0, locals := 128 } (va_Pc [.ref (b 0)] (fun U => U.heap.size = sz ∧ va_P (dC, dI) classes (wM b d cd (nI wn) (nI mn) (nI T.1) ks2 ct2 sm2 le2 gr2 fk fa) U.heap ∧ va_K (dC, dI) classes (kM d) U ∧ va_D (fun _ => True) (wM b d cd (nI wn) (nI mn) (nI T.1) ks2 ct2 sm2 le2 gr2 fk fa))) (va_Qi (fun (r9 : Int32) (_ : Unit) => r9 = (if lowP wn T.1 T.2.1 fk < T.1 ∧ lx (T.2.1 (lowP wn T.1 T.2.1 fk)) fk wn 0 = 0 then nI (lowP wn T.1 T.2.1 fk) else (-1))) (fun (_ : Unit) (t9 : State) => atM dC dI (va_A (wM b d cd (nI wn) (nI mn) (nI T.1) ks2 ct2 sm2 le2 gr2 fk fa) sz) b d 0 wn mn fk fa T t9) (va_A (wM b d cd (nI wn) (nI mn) (nI T.1) ks2 ct2 sm2 le2 gr2 fk fa) sz)) 0 0 (va_A (wM b d cd (nI wn) (nI mn) (nI T.1) ks2 ct2 sm2 le2 gr2 fk fa) sz) := by
  refine Met.ofW (cc := bM_find) (maxL := 2) (ret := (some .int)) (by decide) rfl ?_
  intro p e s m args below meth c s₁ B hml hv
  obtain ⟨rfl, hsz, hP, hK, hD0⟩ := hv
  have hx := B.exec
  have hb := B.bytes
  have hr := B.returns
  have hta : ∀ w ∈ wAll, w.before ([.ref (b 0)] : List Value).toArray s = true := fun w h => atoms_spec (ws := (Cond.code yM_find bM_find 2 (some .int) :: wAll)) B.pre w (List.mem_cons_of_mem _ h)
  have hown : s.vm.findClass "GroupRowsModel" = some m.cls := findClass_of_methodNamed B.named
  have hlocks := B.notSynchronized
  subst hsz
  have hD := hD0.self (sz := s.heap.size)
  generalize hAe : va_A (wM b d cd (nI wn) (nI mn) (nI T.1) ks2 ct2 sm2 le2 gr2 fk fa) s.heap.size = A at hD ⊢
  have hA : ∀ q : Nat, s.heap.size ≤ q → A q := fun q h => by rw [← hAe]; exact Or.inr h
  have hS : va_S A s.heap s.heap [] := va_S.rf
  have hP : va_P (dC, dI) classes (wM b d cd (nI wn) (nI mn) (nI T.1) ks2 ct2 sm2 le2 gr2 fk fa) s.heap := hP
  have hl := lv_entry ([.ref (b 0)]) (n := 2) (Nat.le_of_ble_eq_true rfl)
  rw [lg_entry_eq]
  generalize (lg_sl ([.ref (b 0)]) ++ List.replicate (2 - (lg_sl ([.ref (b 0)])).length) Slot.unset).toArray = ls at hl ⊢
  have hl : lv_has ls 2 [(0, .ref (b 0))] := hl
  obtain ⟨⟨hwn, hmn1, hmn, hn⟩, hk9, hc9, hv9, hs9⟩ := id hrep
  have hlow := repM_low (fk := fk) hrep
  obtain ⟨ps, eps⟩ : ∃ ps, ps = lowP wn T.1 T.2.1 fk := ⟨_, rfl⟩
  rw [← eps] at hlow
  have hps := hlow.1
  refine lv_aload_n hx hb dM_find_0 rfl (lv_at hl 0 rfl) ?_
  refine lv_iconst (v := 0) hx hb dM_find_1 (by decide) ?_
  refine va_put (D := (dC, dI)) (ci := 1) (v := .int 0) (ty := .int) (C := "GroupRowsModel") (T := FM) (N := 11) hx hb hta inM tM tMok nM hown hK hP hD hS 0 rfl rfl 0 (by decide) (hta _ w280) (fun _ h9 => h9) rfl (by decide +kernel) rfl rfl (Nat.le_of_ble_eq_true rfl) dM_find_2 (fun H locs hP hD hS => ?_)
  have hP : va_P (dC, dI) classes (wM b d 0 (nI wn) (nI mn) (nI T.1) ks2 ct2 sm2 le2 gr2 fk fa) H := hP
  have hD : va_D A (wM b d 0 (nI wn) (nI mn) (nI T.1) ks2 ct2 sm2 le2 gr2 fk fa) := hD
  refine lv_aload_n hx hb dM_find_5 rfl (lv_at hl 0 rfl) ?_
  refine gi_callR (v := .int (nI ps)) (W.runV (As := []) (rest := []) ⟨hx, hb, hml, hown, hta⟩ (c_before l dC dI b d wn T.1 0 (nI mn) ks2 ct2 sm2 le2 gr2 fk fa ps hwn hn hlow) (cwV 0 hta (gV w339 w341 sM_before w2 w342) rfl rfl rfl (by decide +kernel) ⟨Nat.le_of_ble_eq_true rfl, Nat.le_of_ble_eq_true rfl⟩) ⟨gb_R, va_recv hK hP (ci := 1) (q0 := 0) rfl rfl, fun U hU hW => ⟨rfl, by rw [hU]; exact hP, va_K.moved hW.alike hK⟩⟩ rfl rfl hl.1 rfl (lv_room (Nat.le_of_ble_eq_true rfl)) dM_find_6 ⟨Nat.le_of_ble_eq_true rfl, Nat.le_of_ble_eq_true rfl⟩) ?_
  refine lv_istore_n (lv' := [(1, .int (nI ps)), (0, .ref (b 0))]) hx hb dM_find_9 rfl hl (by decide) rfl (fun ls hl => ?_)
  refine lv_iload_n hx hb dM_find_10 rfl (lv_at hl 0 rfl) ?_
  refine lv_aload_n hx hb dM_find_11 rfl (lv_at hl 1 rfl) ?_
  refine va_get (D := (dC, dI)) (ci := 1) (v := .int (nI T.1)) (C := "GroupRowsModel") (T := FM) (N := 11) hx hb hta inM hown hK hP 0 rfl rfl 3 (by decide) (hta _ w283) (fun _ h9 => h9) rfl dM_find_12 ?_
  refine lv_icmp_ge (tgt := 30) hx hb dM_find_15 (by decide) (fun h1 => ?_) (fun h1 => ?_)
  · skip
    have h1 : T.1 ≤ ps := (nI_leI (by omega) (by omega)).mp h1
    refine lv_iconst (v := (-1)) hx hb dM_find_30 (by decide) ?_
    exact W.iret (v := (-1)) hx hb hr (fun t9 ht9 hW9 => ⟨⟨(-1), (), rfl, (if_neg (by rw [← eps]; exact fun q => absurd q.1 (by omega))).symm, ⟨_, _, _, _, _, hrep, by rw [ht9]; exact hP, va_K.moved hW9.alike hK, hD⟩⟩, hS.F ht9⟩) hS.2.2 dM_find_31
  · skip
    have h1 : ps < T.1 := by
      rcases Nat.lt_or_ge ps T.1 with z | z
      · exact z
      · exact absurd (nI_le z (by omega)) h1
    refine lv_aload_n hx hb dM_find_18 rfl (lv_at hl 1 rfl) ?_
    refine lv_iload_n hx hb dM_find_19 rfl (lv_at hl 0 rfl) ?_
    refine gi_callR (v := .int (lx fk (fun i => ks2 (8 * ps + i)) wn 0)) (W.runV (As := [.int (nI ps)]) (rest := []) ⟨hx, hb, hml, hown, hta⟩ (c_against l dC dI b d wn 0 (nI mn) (nI T.1) ks2 ct2 sm2 le2 gr2 fk fa ps hwn (by omega)) (cwV 1 hta (gV w343 w345 sM_against w2 w346) rfl rfl rfl (by decide +kernel) ⟨Nat.le_of_ble_eq_true rfl, Nat.le_of_ble_eq_true rfl⟩) ⟨gb_R, va_recv hK hP (ci := 1) (q0 := 0) rfl rfl, fun U hU hW => ⟨rfl, by rw [hU]; exact hP, va_K.moved hW.alike hK⟩⟩ rfl rfl hl.1 rfl (lv_room (Nat.le_of_ble_eq_true rfl)) dM_find_20 ⟨Nat.le_of_ble_eq_true rfl, Nat.le_of_ble_eq_true rfl⟩) ?_
    refine lv_if_ne (tgt := 30) hx hb dM_find_23 (by decide) (fun h2 => ?_) (fun h2 => ?_)
    · skip
      refine lv_iconst (v := (-1)) hx hb dM_find_30 (by decide) ?_
      exact W.iret (v := (-1)) hx hb hr (fun t9 ht9 hW9 => ⟨⟨(-1), (), rfl, (if_neg (by rw [← eps]; exact fun q => h2 ((repM_has hrep h1).mpr q.2))).symm, ⟨_, _, _, _, _, hrep, by rw [ht9]; exact hP, va_K.moved hW9.alike hK, hD⟩⟩, hS.F ht9⟩) hS.2.2 dM_find_31
    · skip
      refine lv_iload_n hx hb dM_find_26 rfl (lv_at hl 0 rfl) ?_
      refine lv_goto (tgt := 31) hx hb dM_find_27 (by decide) ?_
      exact W.iret (v := (nI ps)) hx hb hr (fun t9 ht9 hW9 => ⟨⟨(nI ps), (), rfl, by rw [if_pos (by rw [← eps]; exact ⟨h1, (repM_has hrep h1).mp h2⟩), eps], ⟨_, _, _, _, _, hrep, by rw [ht9]; exact hP, va_K.moved hW9.alike hK, hD⟩⟩, hS.F ht9⟩) hS.2.2 dM_find_31
set_option maxHeartbeats 4000000 in
set_option maxRecDepth 100000 in
theorem c_MkeyAt (l : Launch) (dC : Nat → ClassId) (dI : Nat → Nat → Nat) (b : Nat → Nat) (d : Nat → ClassId) (cd : Int32) (wn mn : Nat) (fk : Nat → Int32) (fa : Nat → Int64) (T : TB) (ks2 : Nat → Int32) (ct2 sm2 le2 gr2 : Nat → Int64) (hrep : repT (fun p => p) wn mn T ks2 ct2 sm2 le2 gr2) (pl i : Int32) (sz : Nat)  : Met l yM_keyAt (Cond.code yM_keyAt bM_keyAt 3 (some .int) :: wAll) { frames := 3, cells := 0, slots := 0, locals := 128 } (va_Pc [.ref (b 0), .int pl, .int i] (fun U => U.heap.size = sz ∧ va_P (dC, dI) classes (wM b d cd (nI wn) (nI mn) (nI T.1) ks2 ct2 sm2 le2 gr2 fk fa) U.heap ∧ va_K (dC, dI) classes (kM d) U ∧ va_D (fun _ => True) (wM b d cd (nI wn) (nI mn) (nI T.1) ks2 ct2 sm2 le2 gr2 fk fa))) (va_Qi (fun (r9 : Int32) (_ : Unit) => r9 = (if (0 ≤ pl ∧ pl < nI T.1) ∧ 0 ≤ i ∧ i < nI wn then T.2.1 pl.toNatClampNeg i.toNatClampNeg else 0)) (fun (_ : Unit) (t9 : State) => (((0 ≤ pl ∧ pl < nI T.1) ∧ 0 ≤ i ∧ i < nI wn) → atM dC dI (va_A (wM b d cd (nI wn) (nI mn) (nI T.1) ks2 ct2 sm2 le2 gr2 fk fa) sz) b d 0 wn mn fk fa T t9) ∧ (¬ ((0 ≤ pl ∧ pl < nI T.1) ∧ 0 ≤ i ∧ i < nI wn) → atM dC dI (va_A (wM b d cd (nI wn) (nI mn) (nI T.1) ks2 ct2 sm2 le2 gr2 fk fa) sz) b d 1 wn mn fk fa T t9)) (va_A (wM b d cd (nI wn) (nI mn) (nI T.1) ks2 ct2 sm2 le2 gr2 fk fa) sz)) 0 0 (va_A (wM b d cd (nI wn) (nI mn) (nI T.1) ks2 ct2 sm2 le2 gr2 fk fa) sz) := by
  refine Met.ofW (cc := bM_keyAt) (maxL := 3) (ret := (some .int)) (by decide) rfl ?_
  intro p e s m args below meth c s₁ B hml hv
  obtain ⟨rfl, hsz, hP, hK, hD0⟩ := hv
  have hx := B.exec
  have hb := B.bytes
  have hr := B.returns
  have hta : ∀ w ∈ wAll, w.before ([.ref (b 0), .int pl, .int i] : List Value).toArray s = true := fun w h => atoms_spec (ws := (Cond.code yM_keyAt bM_keyAt 3 (some .int) :: wAll)) B.pre w (List.mem_cons_of_mem _ h)
  have hown : s.vm.findClass "GroupRowsModel" = some m.cls := findClass_of_methodNamed B.named
  have hlocks := B.notSynchronized
  subst hsz
  have hD := hD0.self (sz := s.heap.size)
  generalize hAe : va_A (wM b d cd (nI wn) (nI mn) (nI T.1) ks2 ct2 sm2 le2 gr2 fk fa) s.heap.size = A at hD ⊢
  have hA : ∀ q : Nat, s.heap.size ≤ q → A q := fun q h => by rw [← hAe]; exact Or.inr h
  have hS : va_S A s.heap s.heap [] := va_S.rf
  have hP : va_P (dC, dI) classes (wM b d cd (nI wn) (nI mn) (nI T.1) ks2 ct2 sm2 le2 gr2 fk fa) s.heap := hP
  have hl := lv_entry ([.ref (b 0), .int pl, .int i]) (n := 3) (Nat.le_of_ble_eq_true rfl)
  rw [lg_entry_eq]
  generalize (lg_sl ([.ref (b 0), .int pl, .int i]) ++ List.replicate (3 - (lg_sl ([.ref (b 0), .int pl, .int i])).length) Slot.unset).toArray = ls at hl ⊢
  have hl : lv_has ls 3 [(0, .ref (b 0)), (1, .int pl), (2, .int i)] := hl
  obtain ⟨⟨hwn, hmn1, hmn, hn⟩, hk9, hc9, hv9, hs9⟩ := id hrep
  refine lv_aload_n hx hb dM_keyAt_0 rfl (lv_at hl 0 rfl) ?_
  refine lv_aload_n hx hb dM_keyAt_1 rfl (lv_at hl 0 rfl) ?_
  refine lv_iload_n hx hb dM_keyAt_2 rfl (lv_at hl 1 rfl) ?_
  refine gi_callR (v := .int (if 0 ≤ pl ∧ pl < nI T.1 then 1 else 0)) (W.runV (As := [.int pl]) (rest := [.ref (b 0)]) ⟨hx, hb, hml, hown, hta⟩ (c_isRow l dC dI b d cd (nI wn) (nI mn) (nI T.1) ks2 ct2 sm2 le2 gr2 fk fa pl) (cwV 1 hta (gV w388 w390 sM_isRow w2 w391) rfl rfl rfl (by decide +kernel) ⟨Nat.le_of_ble_eq_true rfl, Nat.le_of_ble_eq_true rfl⟩) ⟨gb_R, va_recv hK hP (ci := 1) (q0 := 0) rfl rfl, fun U hU hW => ⟨rfl, by rw [hU]; exact hP, va_K.moved hW.alike hK⟩⟩ rfl rfl hl.1 rfl (lv_room (Nat.le_of_ble_eq_true rfl)) dM_keyAt_3 ⟨Nat.le_of_ble_eq_true rfl, Nat.le_of_ble_eq_true rfl⟩) ?_
  refine lv_if_eq (tgt := 25) hx hb dM_keyAt_6 (by decide) (fun h1 => ?_) (fun h1 => ?_)
  · skip
    have hN : ¬ (0 ≤ pl ∧ pl < nI T.1) := fun q => by rw [if_pos q] at h1; exact absurd h1 (by decide)
    refine lv_iconst (v := 1) hx hb dM_keyAt_25 (by decide) ?_
    refine va_put (D := (dC, dI)) (ci := 1) (v := .int 1) (ty := .int) (C := "GroupRowsModel") (T := FM) (N := 11) hx hb hta inM tM tMok nM hown hK hP hD hS 0 rfl rfl 0 (by decide) (hta _ w280) (fun _ h9 => h9) rfl (by decide +kernel) rfl rfl (Nat.le_of_ble_eq_true rfl) dM_keyAt_26 (fun H locs hP hD hS => ?_)
    have hP : va_P (dC, dI) classes (wM b d 1 (nI wn) (nI mn) (nI T.1) ks2 ct2 sm2 le2 gr2 fk fa) H := hP
    have hD : va_D A (wM b d 1 (nI wn) (nI mn) (nI T.1) ks2 ct2 sm2 le2 gr2 fk fa) := hD
    refine lv_aload_n hx hb dM_keyAt_29 rfl (lv_at hl 0 rfl) ?_
    refine va_get (D := (dC, dI)) (ci := 1) (v := .int 1) (C := "GroupRowsModel") (T := FM) (N := 11) hx hb hta inM hown hK hP 0 rfl rfl 0 (by decide) (hta _ w280) (fun _ h9 => h9) rfl dM_keyAt_30 ?_
    refine lv_if_le (tgt := 40) hx hb dM_keyAt_33 (by decide) (fun hz => ?_) (fun hz => ?_)
    · skip
      exact absurd hz (by decide)
    · skip
      refine lv_iconst (v := 0) hx hb dM_keyAt_36 (by decide) ?_
      refine lv_goto (tgt := 51) hx hb dM_keyAt_37 (by decide) ?_
      exact W.iret (v := 0) hx hb hr (fun t9 ht9 hW9 => ⟨⟨0, (), rfl, (if_neg (fun q => hN q.1)).symm, ⟨fun h9 => absurd h9 (fun q => hN q.1), fun _ => ⟨_, _, _, _, _, hrep, by rw [ht9]; exact hP, va_K.moved hW9.alike hK, hD⟩⟩⟩, hS.F ht9⟩) hS.2.2 dM_keyAt_51
  · skip
    have hL1 : 0 ≤ pl ∧ pl < nI T.1 := by
      by_cases q : 0 ≤ pl ∧ pl < nI T.1
      · exact q
      · rw [if_neg q] at h1; exact absurd rfl h1
    refine lv_iload_n hx hb dM_keyAt_9 rfl (lv_at hl 2 rfl) ?_
    refine lv_if_lt (tgt := 25) hx hb dM_keyAt_10 (by decide) (fun h2 => ?_) (fun h2 => ?_)
    · skip
      refine lv_iconst (v := 1) hx hb dM_keyAt_25 (by decide) ?_
      refine va_put (D := (dC, dI)) (ci := 1) (v := .int 1) (ty := .int) (C := "GroupRowsModel") (T := FM) (N := 11) hx hb hta inM tM tMok nM hown hK hP hD hS 0 rfl rfl 0 (by decide) (hta _ w280) (fun _ h9 => h9) rfl (by decide +kernel) rfl rfl (Nat.le_of_ble_eq_true rfl) dM_keyAt_26 (fun H locs hP hD hS => ?_)
      have hP : va_P (dC, dI) classes (wM b d 1 (nI wn) (nI mn) (nI T.1) ks2 ct2 sm2 le2 gr2 fk fa) H := hP
      have hD : va_D A (wM b d 1 (nI wn) (nI mn) (nI T.1) ks2 ct2 sm2 le2 gr2 fk fa) := hD
      refine lv_aload_n hx hb dM_keyAt_29 rfl (lv_at hl 0 rfl) ?_
      refine va_get (D := (dC, dI)) (ci := 1) (v := .int 1) (C := "GroupRowsModel") (T := FM) (N := 11) hx hb hta inM hown hK hP 0 rfl rfl 0 (by decide) (hta _ w280) (fun _ h9 => h9) rfl dM_keyAt_30 ?_
      refine lv_if_le (tgt := 40) hx hb dM_keyAt_33 (by decide) (fun hz => ?_) (fun hz => ?_)
      · skip
        exact absurd hz (by decide)
      · skip
        refine lv_iconst (v := 0) hx hb dM_keyAt_36 (by decide) ?_
        refine lv_goto (tgt := 51) hx hb dM_keyAt_37 (by decide) ?_
        exact W.iret (v := 0) hx hb hr (fun t9 ht9 hW9 => ⟨⟨0, (), rfl, (if_neg (fun q => absurd q.2.1 (Int32.not_le.mpr h2))).symm, ⟨fun h9 => absurd h9 (fun q => absurd q.2.1 (Int32.not_le.mpr h2)), fun _ => ⟨_, _, _, _, _, hrep, by rw [ht9]; exact hP, va_K.moved hW9.alike hK, hD⟩⟩⟩, hS.F ht9⟩) hS.2.2 dM_keyAt_51
    · skip
      refine lv_iload_n hx hb dM_keyAt_13 rfl (lv_at hl 2 rfl) ?_
      refine lv_aload_n hx hb dM_keyAt_14 rfl (lv_at hl 0 rfl) ?_
      refine va_get (D := (dC, dI)) (ci := 1) (v := .int (nI wn)) (C := "GroupRowsModel") (T := FM) (N := 11) hx hb hta inM hown hK hP 0 rfl rfl 1 (by decide) (hta _ w281) (fun _ h9 => h9) rfl dM_keyAt_15 ?_
      refine lv_icmp_ge (tgt := 25) hx hb dM_keyAt_18 (by decide) (fun h3 => ?_) (fun h3 => ?_)
      · skip
        refine lv_iconst (v := 1) hx hb dM_keyAt_25 (by decide) ?_
        refine va_put (D := (dC, dI)) (ci := 1) (v := .int 1) (ty := .int) (C := "GroupRowsModel") (T := FM) (N := 11) hx hb hta inM tM tMok nM hown hK hP hD hS 0 rfl rfl 0 (by decide) (hta _ w280) (fun _ h9 => h9) rfl (by decide +kernel) rfl rfl (Nat.le_of_ble_eq_true rfl) dM_keyAt_26 (fun H locs hP hD hS => ?_)
        have hP : va_P (dC, dI) classes (wM b d 1 (nI wn) (nI mn) (nI T.1) ks2 ct2 sm2 le2 gr2 fk fa) H := hP
        have hD : va_D A (wM b d 1 (nI wn) (nI mn) (nI T.1) ks2 ct2 sm2 le2 gr2 fk fa) := hD
        refine lv_aload_n hx hb dM_keyAt_29 rfl (lv_at hl 0 rfl) ?_
        refine va_get (D := (dC, dI)) (ci := 1) (v := .int 1) (C := "GroupRowsModel") (T := FM) (N := 11) hx hb hta inM hown hK hP 0 rfl rfl 0 (by decide) (hta _ w280) (fun _ h9 => h9) rfl dM_keyAt_30 ?_
        refine lv_if_le (tgt := 40) hx hb dM_keyAt_33 (by decide) (fun hz => ?_) (fun hz => ?_)
        · skip
          exact absurd hz (by decide)
        · skip
          refine lv_iconst (v := 0) hx hb dM_keyAt_36 (by decide) ?_
          refine lv_goto (tgt := 51) hx hb dM_keyAt_37 (by decide) ?_
          exact W.iret (v := 0) hx hb hr (fun t9 ht9 hW9 => ⟨⟨0, (), rfl, (if_neg (fun q => absurd q.2.2 (Int32.not_lt.mpr h3))).symm, ⟨fun h9 => absurd h9 (fun q => absurd q.2.2 (Int32.not_lt.mpr h3)), fun _ => ⟨_, _, _, _, _, hrep, by rw [ht9]; exact hP, va_K.moved hW9.alike hK, hD⟩⟩⟩, hS.F ht9⟩) hS.2.2 dM_keyAt_51
      · skip
        refine lv_iconst (v := 0) hx hb dM_keyAt_21 (by decide) ?_
        refine lv_goto (tgt := 26) hx hb dM_keyAt_22 (by decide) ?_
        refine va_put (D := (dC, dI)) (ci := 1) (v := .int 0) (ty := .int) (C := "GroupRowsModel") (T := FM) (N := 11) hx hb hta inM tM tMok nM hown hK hP hD hS 0 rfl rfl 0 (by decide) (hta _ w280) (fun _ h9 => h9) rfl (by decide +kernel) rfl rfl (Nat.le_of_ble_eq_true rfl) dM_keyAt_26 (fun H locs hP hD hS => ?_)
        have hP : va_P (dC, dI) classes (wM b d 0 (nI wn) (nI mn) (nI T.1) ks2 ct2 sm2 le2 gr2 fk fa) H := hP
        have hD : va_D A (wM b d 0 (nI wn) (nI mn) (nI T.1) ks2 ct2 sm2 le2 gr2 fk fa) := hD
        refine lv_aload_n hx hb dM_keyAt_29 rfl (lv_at hl 0 rfl) ?_
        refine va_get (D := (dC, dI)) (ci := 1) (v := .int 0) (C := "GroupRowsModel") (T := FM) (N := 11) hx hb hta inM hown hK hP 0 rfl rfl 0 (by decide) (hta _ w280) (fun _ h9 => h9) rfl dM_keyAt_30 ?_
        refine lv_if_le (tgt := 40) hx hb dM_keyAt_33 (by decide) (fun hz => ?_) (fun hz => ?_)
        rotate_left
        · skip
          exact absurd (by decide) hz
        · skip
          have hL : (0 ≤ pl ∧ pl < nI T.1) ∧ 0 ≤ i ∧ i < nI wn := ⟨hL1, Int32.not_lt.mp h2, Int32.not_le.mp h3⟩
          obtain ⟨p0, hp0, ep, cp⟩ := in_nI (by omega) hL.1
          obtain ⟨j, hj, ej, cj⟩ := in_nI (by omega) hL.2
          subst ep
          subst ej
          refine lv_aload_n hx hb dM_keyAt_40 rfl (lv_at hl 0 rfl) ?_
          refine va_get (D := (dC, dI)) (ci := 1) (v := .ref (b 1)) (C := "GroupRowsModel") (T := FM) (N := 11) hx hb hta inM hown hK hP 0 rfl rfl 4 (by decide) (hta _ w284) (fun _ h9 => h9) rfl dM_keyAt_41 ?_
          refine lv_bipush (v := 8) hx hb dM_keyAt_44 (by decide) ?_
          refine lv_iload_n hx hb dM_keyAt_46 rfl (lv_at hl 1 rfl) ?_
          refine lv_imul hx hb dM_keyAt_47 ?_
          refine gi_as (y := nI (8 * p0)) (gi_8mul _) ?_
          refine lv_iload_n hx hb dM_keyAt_48 rfl (lv_at hl 2 rfl) ?_
          refine lv_iadd hx hb dM_keyAt_49 ?_
          refine gi_as (y := nI ((8 * p0) + j)) (nI_add _ _) ?_
          refine gi_iald hx hb hK hP 1 0 rfl rfl (k := ((8 * p0) + j)) (by omega) (by decide) dM_keyAt_50 ?_
          refine gi_as (y := T.2.1 p0 j) (hk9 p0 hp0 j hj) ?_
          exact W.iret (v := (T.2.1 p0 j)) hx hb hr (fun t9 ht9 hW9 => ⟨⟨(T.2.1 p0 j), (), rfl, by rw [if_pos hL, cp, cj], ⟨fun _ => ⟨_, _, _, _, _, hrep, by rw [ht9]; exact hP, va_K.moved hW9.alike hK, hD⟩, fun h9 => absurd (hL) h9⟩⟩, hS.F ht9⟩) hS.2.2 dM_keyAt_51
set_option maxHeartbeats 4000000 in
set_option maxRecDepth 100000 in
theorem c_Mcount (l : Launch) (dC : Nat → ClassId) (dI : Nat → Nat → Nat) (b : Nat → Nat) (d : Nat → ClassId) (cd : Int32) (wn mn : Nat) (fk : Nat → Int32) (fa : Nat → Int64) (T : TB) (ks2 : Nat → Int32) (ct2 sm2 le2 gr2 : Nat → Int64) (hrep : repT (fun p => p) wn mn T ks2 ct2 sm2 le2 gr2) (pl : Int32) (sz : Nat)  : Met l yM_count (Cond.code yM_count bM_count 2 (some .long) :: wAll) { frames := 3, cells := 0, slots := 0, locals := 128 } (va_Pc [.ref (b 0), .int pl] (fun U => U.heap.size = sz ∧ va_P (dC, dI) classes (wM b d cd (nI wn) (nI mn) (nI T.1) ks2 ct2 sm2 le2 gr2 fk fa) U.heap ∧ va_K (dC, dI) classes (kM d) U ∧ va_D (fun _ => True) (wM b d cd (nI wn) (nI mn) (nI T.1) ks2 ct2 sm2 le2 gr2 fk fa))) (va_Ql (fun (r9 : Int64) (_ : Unit) => r9 = (if 0 ≤ pl ∧ pl < nI T.1 then T.2.2.1 pl.toNatClampNeg else 0)) (fun (_ : Unit) (t9 : State) => ((0 ≤ pl ∧ pl < nI T.1) → atM dC dI (va_A (wM b d cd (nI wn) (nI mn) (nI T.1) ks2 ct2 sm2 le2 gr2 fk fa) sz) b d 0 wn mn fk fa T t9) ∧ (¬ (0 ≤ pl ∧ pl < nI T.1) → atM dC dI (va_A (wM b d cd (nI wn) (nI mn) (nI T.1) ks2 ct2 sm2 le2 gr2 fk fa) sz) b d 1 wn mn fk fa T t9)) (va_A (wM b d cd (nI wn) (nI mn) (nI T.1) ks2 ct2 sm2 le2 gr2 fk fa) sz)) 0 0 (va_A (wM b d cd (nI wn) (nI mn) (nI T.1) ks2 ct2 sm2 le2 gr2 fk fa) sz) := by
  refine Met.ofW (cc := bM_count) (maxL := 2) (ret := (some .long)) (by decide) rfl ?_
  intro p e s m args below meth c s₁ B hml hv
  obtain ⟨rfl, hsz, hP, hK, hD0⟩ := hv
  have hx := B.exec
  have hb := B.bytes
  have hr := B.returns
  have hta : ∀ w ∈ wAll, w.before ([.ref (b 0), .int pl] : List Value).toArray s = true := fun w h => atoms_spec (ws := (Cond.code yM_count bM_count 2 (some .long) :: wAll)) B.pre w (List.mem_cons_of_mem _ h)
  have hown : s.vm.findClass "GroupRowsModel" = some m.cls := findClass_of_methodNamed B.named
  have hlocks := B.notSynchronized
  subst hsz
  have hD := hD0.self (sz := s.heap.size)
  generalize hAe : va_A (wM b d cd (nI wn) (nI mn) (nI T.1) ks2 ct2 sm2 le2 gr2 fk fa) s.heap.size = A at hD ⊢
  have hA : ∀ q : Nat, s.heap.size ≤ q → A q := fun q h => by rw [← hAe]; exact Or.inr h
  have hS : va_S A s.heap s.heap [] := va_S.rf
  have hP : va_P (dC, dI) classes (wM b d cd (nI wn) (nI mn) (nI T.1) ks2 ct2 sm2 le2 gr2 fk fa) s.heap := hP
  have hl := lv_entry ([.ref (b 0), .int pl]) (n := 2) (Nat.le_of_ble_eq_true rfl)
  rw [lg_entry_eq]
  generalize (lg_sl ([.ref (b 0), .int pl]) ++ List.replicate (2 - (lg_sl ([.ref (b 0), .int pl])).length) Slot.unset).toArray = ls at hl ⊢
  have hl : lv_has ls 2 [(0, .ref (b 0)), (1, .int pl)] := hl
  obtain ⟨⟨hwn, hmn1, hmn, hn⟩, hk9, hc9, hv9, hs9⟩ := id hrep
  refine lv_aload_n hx hb dM_count_0 rfl (lv_at hl 0 rfl) ?_
  refine lv_aload_n hx hb dM_count_1 rfl (lv_at hl 0 rfl) ?_
  refine lv_iload_n hx hb dM_count_2 rfl (lv_at hl 1 rfl) ?_
  refine gi_callR (v := .int (if 0 ≤ pl ∧ pl < nI T.1 then 1 else 0)) (W.runV (As := [.int pl]) (rest := [.ref (b 0)]) ⟨hx, hb, hml, hown, hta⟩ (c_isRow l dC dI b d cd (nI wn) (nI mn) (nI T.1) ks2 ct2 sm2 le2 gr2 fk fa pl) (cwV 1 hta (gV w388 w390 sM_isRow w2 w391) rfl rfl rfl (by decide +kernel) ⟨Nat.le_of_ble_eq_true rfl, Nat.le_of_ble_eq_true rfl⟩) ⟨gb_R, va_recv hK hP (ci := 1) (q0 := 0) rfl rfl, fun U hU hW => ⟨rfl, by rw [hU]; exact hP, va_K.moved hW.alike hK⟩⟩ rfl rfl hl.1 rfl (lv_room (Nat.le_of_ble_eq_true rfl)) dM_count_3 ⟨Nat.le_of_ble_eq_true rfl, Nat.le_of_ble_eq_true rfl⟩) ?_
  refine lv_if_eq (tgt := 13) hx hb dM_count_6 (by decide) (fun h1 => ?_) (fun h1 => ?_)
  · skip
    have hN : ¬ (0 ≤ pl ∧ pl < nI T.1) := fun q => by rw [if_pos q] at h1; exact absurd h1 (by decide)
    refine lv_iconst (v := 1) hx hb dM_count_13 (by decide) ?_
    refine va_put (D := (dC, dI)) (ci := 1) (v := .int 1) (ty := .int) (C := "GroupRowsModel") (T := FM) (N := 11) hx hb hta inM tM tMok nM hown hK hP hD hS 0 rfl rfl 0 (by decide) (hta _ w280) (fun _ h9 => h9) rfl (by decide +kernel) rfl rfl (Nat.le_of_ble_eq_true rfl) dM_count_14 (fun H locs hP hD hS => ?_)
    have hP : va_P (dC, dI) classes (wM b d 1 (nI wn) (nI mn) (nI T.1) ks2 ct2 sm2 le2 gr2 fk fa) H := hP
    have hD : va_D A (wM b d 1 (nI wn) (nI mn) (nI T.1) ks2 ct2 sm2 le2 gr2 fk fa) := hD
    refine lv_aload_n hx hb dM_count_17 rfl (lv_at hl 0 rfl) ?_
    refine va_get (D := (dC, dI)) (ci := 1) (v := .int 1) (C := "GroupRowsModel") (T := FM) (N := 11) hx hb hta inM hown hK hP 0 rfl rfl 0 (by decide) (hta _ w280) (fun _ h9 => h9) rfl dM_count_18 ?_
    refine lv_if_le (tgt := 28) hx hb dM_count_21 (by decide) (fun hz => ?_) (fun hz => ?_)
    · skip
      exact absurd hz (by decide)
    · skip
      refine lv_lconst (v := 0) hx hb dM_count_24 (by decide) ?_
      refine lv_goto (tgt := 34) hx hb dM_count_25 (by decide) ?_
      exact W.lret (v := 0) hx hb hr (fun t9 ht9 hW9 => ⟨⟨0, (), rfl, (if_neg (hN)).symm, ⟨fun h9 => absurd h9 (hN), fun _ => ⟨_, _, _, _, _, hrep, by rw [ht9]; exact hP, va_K.moved hW9.alike hK, hD⟩⟩⟩, hS.F ht9⟩) hS.2.2 dM_count_34
  · skip
    have hL1 : 0 ≤ pl ∧ pl < nI T.1 := by
      by_cases q : 0 ≤ pl ∧ pl < nI T.1
      · exact q
      · rw [if_neg q] at h1; exact absurd rfl h1
    refine lv_iconst (v := 0) hx hb dM_count_9 (by decide) ?_
    refine lv_goto (tgt := 14) hx hb dM_count_10 (by decide) ?_
    refine va_put (D := (dC, dI)) (ci := 1) (v := .int 0) (ty := .int) (C := "GroupRowsModel") (T := FM) (N := 11) hx hb hta inM tM tMok nM hown hK hP hD hS 0 rfl rfl 0 (by decide) (hta _ w280) (fun _ h9 => h9) rfl (by decide +kernel) rfl rfl (Nat.le_of_ble_eq_true rfl) dM_count_14 (fun H locs hP hD hS => ?_)
    have hP : va_P (dC, dI) classes (wM b d 0 (nI wn) (nI mn) (nI T.1) ks2 ct2 sm2 le2 gr2 fk fa) H := hP
    have hD : va_D A (wM b d 0 (nI wn) (nI mn) (nI T.1) ks2 ct2 sm2 le2 gr2 fk fa) := hD
    refine lv_aload_n hx hb dM_count_17 rfl (lv_at hl 0 rfl) ?_
    refine va_get (D := (dC, dI)) (ci := 1) (v := .int 0) (C := "GroupRowsModel") (T := FM) (N := 11) hx hb hta inM hown hK hP 0 rfl rfl 0 (by decide) (hta _ w280) (fun _ h9 => h9) rfl dM_count_18 ?_
    refine lv_if_le (tgt := 28) hx hb dM_count_21 (by decide) (fun hz => ?_) (fun hz => ?_)
    rotate_left
    · skip
      exact absurd (by decide) hz
    · skip
      obtain ⟨p0, hp0, ep, cp⟩ := in_nI (by omega) hL1
      subst ep
      refine lv_aload_n hx hb dM_count_28 rfl (lv_at hl 0 rfl) ?_
      refine va_get (D := (dC, dI)) (ci := 1) (v := .ref (b 2)) (C := "GroupRowsModel") (T := FM) (N := 11) hx hb hta inM hown hK hP 0 rfl rfl 5 (by decide) (hta _ w285) (fun _ h9 => h9) rfl dM_count_29 ?_
      refine lv_iload_n hx hb dM_count_32 rfl (lv_at hl 1 rfl) ?_
      refine gi_lald hx hb hK hP 2 1 rfl rfl (k := p0) (by omega) (by decide) dM_count_33 ?_
      refine gi_asl (y := T.2.2.1 p0) (hc9 p0 hp0) ?_
      exact W.lret (v := (T.2.2.1 p0)) hx hb hr (fun t9 ht9 hW9 => ⟨⟨(T.2.2.1 p0), (), rfl, by rw [if_pos hL1, cp], ⟨fun _ => ⟨_, _, _, _, _, hrep, by rw [ht9]; exact hP, va_K.moved hW9.alike hK, hD⟩, fun h9 => absurd (hL1) h9⟩⟩, hS.F ht9⟩) hS.2.2 dM_count_34
set_option maxHeartbeats 4000000 in
set_option maxRecDepth 100000 in
theorem c_Mtold (l : Launch) (dC : Nat → ClassId) (dI : Nat → Nat → Nat) (b : Nat → Nat) (d : Nat → ClassId) (cd : Int32) (wn mn : Nat) (fk : Nat → Int32) (fa : Nat → Int64) (T : TB) (ks2 : Nat → Int32) (ct2 sm2 le2 gr2 : Nat → Int64) (hrep : repT (fun p => p) wn mn T ks2 ct2 sm2 le2 gr2) (pl m0 wh : Int32) (sz : Nat)  : Met l yM_told (Cond.code yM_told bM_told 4 (some .long) :: wAll) { frames := 3, cells := 0, slots := 0, locals := 128 } (va_Pc [.ref (b 0), .int pl, .int m0, .int wh] (fun U => U.heap.size = sz ∧ va_P (dC, dI) classes (wM b d cd (nI wn) (nI mn) (nI T.1) ks2 ct2 sm2 le2 gr2 fk fa) U.heap ∧ va_K (dC, dI) classes (kM d) U ∧ va_D (fun _ => True) (wM b d cd (nI wn) (nI mn) (nI T.1) ks2 ct2 sm2 le2 gr2 fk fa))) (va_Ql (fun (r9 : Int64) (_ : Unit) => r9 = (if (0 ≤ pl ∧ pl < nI T.1) ∧ (0 ≤ m0 ∧ m0 < nI mn) ∧ 0 ≤ wh ∧ wh ≤ 2 then (if wh = 0 then T.2.2.2.1 pl.toNatClampNeg m0.toNatClampNeg else if wh = 1 then T.2.2.2.2.1 pl.toNatClampNeg m0.toNatClampNeg else T.2.2.2.2.2 pl.toNatClampNeg m0.toNatClampNeg) else 0)) (fun (_ : Unit) (t9 : State) => (((0 ≤ pl ∧ pl < nI T.1) ∧ (0 ≤ m0 ∧ m0 < nI mn) ∧ 0 ≤ wh ∧ wh ≤ 2) → atM dC dI (va_A (wM b d cd (nI wn) (nI mn) (nI T.1) ks2 ct2 sm2 le2 gr2 fk fa) sz) b d 0 wn mn fk fa T t9) ∧ (¬ ((0 ≤ pl ∧ pl < nI T.1) ∧ (0 ≤ m0 ∧ m0 < nI mn) ∧ 0 ≤ wh ∧ wh ≤ 2) → atM dC dI (va_A (wM b d cd (nI wn) (nI mn) (nI T.1) ks2 ct2 sm2 le2 gr2 fk fa) sz) b d 1 wn mn fk fa T t9)) (va_A (wM b d cd (nI wn) (nI mn) (nI T.1) ks2 ct2 sm2 le2 gr2 fk fa) sz)) 0 0 (va_A (wM b d cd (nI wn) (nI mn) (nI T.1) ks2 ct2 sm2 le2 gr2 fk fa) sz) := by
  refine Met.ofW (cc := bM_told) (maxL := 4) (ret := (some .long)) (by decide) rfl ?_
  intro p e s m args below meth c s₁ B hml hv
  obtain ⟨rfl, hsz, hP, hK, hD0⟩ := hv
  have hx := B.exec
  have hb := B.bytes
  have hr := B.returns
  have hta : ∀ w ∈ wAll, w.before ([.ref (b 0), .int pl, .int m0, .int wh] : List Value).toArray s = true := fun w h => atoms_spec (ws := (Cond.code yM_told bM_told 4 (some .long) :: wAll)) B.pre w (List.mem_cons_of_mem _ h)
  have hown : s.vm.findClass "GroupRowsModel" = some m.cls := findClass_of_methodNamed B.named
  have hlocks := B.notSynchronized
  subst hsz
  have hD := hD0.self (sz := s.heap.size)
  generalize hAe : va_A (wM b d cd (nI wn) (nI mn) (nI T.1) ks2 ct2 sm2 le2 gr2 fk fa) s.heap.size = A at hD ⊢
  have hA : ∀ q : Nat, s.heap.size ≤ q → A q := fun q h => by rw [← hAe]; exact Or.inr h
  have hS : va_S A s.heap s.heap [] := va_S.rf
  have hP : va_P (dC, dI) classes (wM b d cd (nI wn) (nI mn) (nI T.1) ks2 ct2 sm2 le2 gr2 fk fa) s.heap := hP
  have hl := lv_entry ([.ref (b 0), .int pl, .int m0, .int wh]) (n := 4) (Nat.le_of_ble_eq_true rfl)
  rw [lg_entry_eq]
  generalize (lg_sl ([.ref (b 0), .int pl, .int m0, .int wh]) ++ List.replicate (4 - (lg_sl ([.ref (b 0), .int pl, .int m0, .int wh])).length) Slot.unset).toArray = ls at hl ⊢
  have hl : lv_has ls 4 [(0, .ref (b 0)), (1, .int pl), (2, .int m0), (3, .int wh)] := hl
  obtain ⟨⟨hwn, hmn1, hmn, hn⟩, hk9, hc9, hv9, hs9⟩ := id hrep
  refine lv_aload_n hx hb dM_told_0 rfl (lv_at hl 0 rfl) ?_
  refine lv_aload_n hx hb dM_told_1 rfl (lv_at hl 0 rfl) ?_
  refine lv_iload_n hx hb dM_told_2 rfl (lv_at hl 1 rfl) ?_
  refine gi_callR (v := .int (if 0 ≤ pl ∧ pl < nI T.1 then 1 else 0)) (W.runV (As := [.int pl]) (rest := [.ref (b 0)]) ⟨hx, hb, hml, hown, hta⟩ (c_isRow l dC dI b d cd (nI wn) (nI mn) (nI T.1) ks2 ct2 sm2 le2 gr2 fk fa pl) (cwV 1 hta (gV w388 w390 sM_isRow w2 w391) rfl rfl rfl (by decide +kernel) ⟨Nat.le_of_ble_eq_true rfl, Nat.le_of_ble_eq_true rfl⟩) ⟨gb_R, va_recv hK hP (ci := 1) (q0 := 0) rfl rfl, fun U hU hW => ⟨rfl, by rw [hU]; exact hP, va_K.moved hW.alike hK⟩⟩ rfl rfl hl.1 rfl (lv_room (Nat.le_of_ble_eq_true rfl)) dM_told_3 ⟨Nat.le_of_ble_eq_true rfl, Nat.le_of_ble_eq_true rfl⟩) ?_
  refine lv_if_eq (tgt := 34) hx hb dM_told_6 (by decide) (fun h1 => ?_) (fun h1 => ?_)
  · skip
    have hN : ¬ (0 ≤ pl ∧ pl < nI T.1) := fun q => by rw [if_pos q] at h1; exact absurd h1 (by decide)
    refine lv_iconst (v := 1) hx hb dM_told_34 (by decide) ?_
    refine va_put (D := (dC, dI)) (ci := 1) (v := .int 1) (ty := .int) (C := "GroupRowsModel") (T := FM) (N := 11) hx hb hta inM tM tMok nM hown hK hP hD hS 0 rfl rfl 0 (by decide) (hta _ w280) (fun _ h9 => h9) rfl (by decide +kernel) rfl rfl (Nat.le_of_ble_eq_true rfl) dM_told_35 (fun H locs hP hD hS => ?_)
    have hP : va_P (dC, dI) classes (wM b d 1 (nI wn) (nI mn) (nI T.1) ks2 ct2 sm2 le2 gr2 fk fa) H := hP
    have hD : va_D A (wM b d 1 (nI wn) (nI mn) (nI T.1) ks2 ct2 sm2 le2 gr2 fk fa) := hD
    refine lv_aload_n hx hb dM_told_38 rfl (lv_at hl 0 rfl) ?_
    refine va_get (D := (dC, dI)) (ci := 1) (v := .int 1) (C := "GroupRowsModel") (T := FM) (N := 11) hx hb hta inM hown hK hP 0 rfl rfl 0 (by decide) (hta _ w280) (fun _ h9 => h9) rfl dM_told_39 ?_
    refine lv_if_le (tgt := 47) hx hb dM_told_42 (by decide) (fun hz => ?_) (fun hz => ?_)
    · skip
      exact absurd hz (by decide)
    · skip
      refine lv_lconst (v := 0) hx hb dM_told_45 (by decide) ?_
      exact W.lret (v := 0) hx hb hr (fun t9 ht9 hW9 => ⟨⟨0, (), rfl, (if_neg (fun q => hN q.1)).symm, ⟨fun h9 => absurd h9 (fun q => hN q.1), fun _ => ⟨_, _, _, _, _, hrep, by rw [ht9]; exact hP, va_K.moved hW9.alike hK, hD⟩⟩⟩, hS.F ht9⟩) hS.2.2 dM_told_46
  · skip
    have hL1 : 0 ≤ pl ∧ pl < nI T.1 := by
      by_cases q : 0 ≤ pl ∧ pl < nI T.1
      · exact q
      · rw [if_neg q] at h1; exact absurd rfl h1
    refine lv_iload_n hx hb dM_told_9 rfl (lv_at hl 2 rfl) ?_
    refine lv_if_lt (tgt := 34) hx hb dM_told_10 (by decide) (fun h2 => ?_) (fun h2 => ?_)
    · skip
      refine lv_iconst (v := 1) hx hb dM_told_34 (by decide) ?_
      refine va_put (D := (dC, dI)) (ci := 1) (v := .int 1) (ty := .int) (C := "GroupRowsModel") (T := FM) (N := 11) hx hb hta inM tM tMok nM hown hK hP hD hS 0 rfl rfl 0 (by decide) (hta _ w280) (fun _ h9 => h9) rfl (by decide +kernel) rfl rfl (Nat.le_of_ble_eq_true rfl) dM_told_35 (fun H locs hP hD hS => ?_)
      have hP : va_P (dC, dI) classes (wM b d 1 (nI wn) (nI mn) (nI T.1) ks2 ct2 sm2 le2 gr2 fk fa) H := hP
      have hD : va_D A (wM b d 1 (nI wn) (nI mn) (nI T.1) ks2 ct2 sm2 le2 gr2 fk fa) := hD
      refine lv_aload_n hx hb dM_told_38 rfl (lv_at hl 0 rfl) ?_
      refine va_get (D := (dC, dI)) (ci := 1) (v := .int 1) (C := "GroupRowsModel") (T := FM) (N := 11) hx hb hta inM hown hK hP 0 rfl rfl 0 (by decide) (hta _ w280) (fun _ h9 => h9) rfl dM_told_39 ?_
      refine lv_if_le (tgt := 47) hx hb dM_told_42 (by decide) (fun hz => ?_) (fun hz => ?_)
      · skip
        exact absurd hz (by decide)
      · skip
        refine lv_lconst (v := 0) hx hb dM_told_45 (by decide) ?_
        exact W.lret (v := 0) hx hb hr (fun t9 ht9 hW9 => ⟨⟨0, (), rfl, (if_neg (fun q => absurd q.2.1.1 (Int32.not_le.mpr h2))).symm, ⟨fun h9 => absurd h9 (fun q => absurd q.2.1.1 (Int32.not_le.mpr h2)), fun _ => ⟨_, _, _, _, _, hrep, by rw [ht9]; exact hP, va_K.moved hW9.alike hK, hD⟩⟩⟩, hS.F ht9⟩) hS.2.2 dM_told_46
    · skip
      refine lv_iload_n hx hb dM_told_13 rfl (lv_at hl 2 rfl) ?_
      refine lv_aload_n hx hb dM_told_14 rfl (lv_at hl 0 rfl) ?_
      refine va_get (D := (dC, dI)) (ci := 1) (v := .int (nI mn)) (C := "GroupRowsModel") (T := FM) (N := 11) hx hb hta inM hown hK hP 0 rfl rfl 2 (by decide) (hta _ w282) (fun _ h9 => h9) rfl dM_told_15 ?_
      refine lv_icmp_ge (tgt := 34) hx hb dM_told_18 (by decide) (fun h3 => ?_) (fun h3 => ?_)
      · skip
        refine lv_iconst (v := 1) hx hb dM_told_34 (by decide) ?_
        refine va_put (D := (dC, dI)) (ci := 1) (v := .int 1) (ty := .int) (C := "GroupRowsModel") (T := FM) (N := 11) hx hb hta inM tM tMok nM hown hK hP hD hS 0 rfl rfl 0 (by decide) (hta _ w280) (fun _ h9 => h9) rfl (by decide +kernel) rfl rfl (Nat.le_of_ble_eq_true rfl) dM_told_35 (fun H locs hP hD hS => ?_)
        have hP : va_P (dC, dI) classes (wM b d 1 (nI wn) (nI mn) (nI T.1) ks2 ct2 sm2 le2 gr2 fk fa) H := hP
        have hD : va_D A (wM b d 1 (nI wn) (nI mn) (nI T.1) ks2 ct2 sm2 le2 gr2 fk fa) := hD
        refine lv_aload_n hx hb dM_told_38 rfl (lv_at hl 0 rfl) ?_
        refine va_get (D := (dC, dI)) (ci := 1) (v := .int 1) (C := "GroupRowsModel") (T := FM) (N := 11) hx hb hta inM hown hK hP 0 rfl rfl 0 (by decide) (hta _ w280) (fun _ h9 => h9) rfl dM_told_39 ?_
        refine lv_if_le (tgt := 47) hx hb dM_told_42 (by decide) (fun hz => ?_) (fun hz => ?_)
        · skip
          exact absurd hz (by decide)
        · skip
          refine lv_lconst (v := 0) hx hb dM_told_45 (by decide) ?_
          exact W.lret (v := 0) hx hb hr (fun t9 ht9 hW9 => ⟨⟨0, (), rfl, (if_neg (fun q => absurd q.2.1.2 (Int32.not_lt.mpr h3))).symm, ⟨fun h9 => absurd h9 (fun q => absurd q.2.1.2 (Int32.not_lt.mpr h3)), fun _ => ⟨_, _, _, _, _, hrep, by rw [ht9]; exact hP, va_K.moved hW9.alike hK, hD⟩⟩⟩, hS.F ht9⟩) hS.2.2 dM_told_46
      · skip
        refine lv_iload_n hx hb dM_told_21 rfl (lv_at hl 3 rfl) ?_
        refine lv_if_lt (tgt := 34) hx hb dM_told_22 (by decide) (fun h4 => ?_) (fun h4 => ?_)
        · skip
          refine lv_iconst (v := 1) hx hb dM_told_34 (by decide) ?_
          refine va_put (D := (dC, dI)) (ci := 1) (v := .int 1) (ty := .int) (C := "GroupRowsModel") (T := FM) (N := 11) hx hb hta inM tM tMok nM hown hK hP hD hS 0 rfl rfl 0 (by decide) (hta _ w280) (fun _ h9 => h9) rfl (by decide +kernel) rfl rfl (Nat.le_of_ble_eq_true rfl) dM_told_35 (fun H locs hP hD hS => ?_)
          have hP : va_P (dC, dI) classes (wM b d 1 (nI wn) (nI mn) (nI T.1) ks2 ct2 sm2 le2 gr2 fk fa) H := hP
          have hD : va_D A (wM b d 1 (nI wn) (nI mn) (nI T.1) ks2 ct2 sm2 le2 gr2 fk fa) := hD
          refine lv_aload_n hx hb dM_told_38 rfl (lv_at hl 0 rfl) ?_
          refine va_get (D := (dC, dI)) (ci := 1) (v := .int 1) (C := "GroupRowsModel") (T := FM) (N := 11) hx hb hta inM hown hK hP 0 rfl rfl 0 (by decide) (hta _ w280) (fun _ h9 => h9) rfl dM_told_39 ?_
          refine lv_if_le (tgt := 47) hx hb dM_told_42 (by decide) (fun hz => ?_) (fun hz => ?_)
          · skip
            exact absurd hz (by decide)
          · skip
            refine lv_lconst (v := 0) hx hb dM_told_45 (by decide) ?_
            exact W.lret (v := 0) hx hb hr (fun t9 ht9 hW9 => ⟨⟨0, (), rfl, (if_neg (fun q => absurd q.2.2.1 (Int32.not_le.mpr h4))).symm, ⟨fun h9 => absurd h9 (fun q => absurd q.2.2.1 (Int32.not_le.mpr h4)), fun _ => ⟨_, _, _, _, _, hrep, by rw [ht9]; exact hP, va_K.moved hW9.alike hK, hD⟩⟩⟩, hS.F ht9⟩) hS.2.2 dM_told_46
        · skip
          refine lv_iload_n hx hb dM_told_25 rfl (lv_at hl 3 rfl) ?_
          refine lv_iconst (v := 2) hx hb dM_told_26 (by decide) ?_
          refine lv_icmp_gt (tgt := 34) hx hb dM_told_27 (by decide) (fun h5 => ?_) (fun h5 => ?_)
          · skip
            refine lv_iconst (v := 1) hx hb dM_told_34 (by decide) ?_
            refine va_put (D := (dC, dI)) (ci := 1) (v := .int 1) (ty := .int) (C := "GroupRowsModel") (T := FM) (N := 11) hx hb hta inM tM tMok nM hown hK hP hD hS 0 rfl rfl 0 (by decide) (hta _ w280) (fun _ h9 => h9) rfl (by decide +kernel) rfl rfl (Nat.le_of_ble_eq_true rfl) dM_told_35 (fun H locs hP hD hS => ?_)
            have hP : va_P (dC, dI) classes (wM b d 1 (nI wn) (nI mn) (nI T.1) ks2 ct2 sm2 le2 gr2 fk fa) H := hP
            have hD : va_D A (wM b d 1 (nI wn) (nI mn) (nI T.1) ks2 ct2 sm2 le2 gr2 fk fa) := hD
            refine lv_aload_n hx hb dM_told_38 rfl (lv_at hl 0 rfl) ?_
            refine va_get (D := (dC, dI)) (ci := 1) (v := .int 1) (C := "GroupRowsModel") (T := FM) (N := 11) hx hb hta inM hown hK hP 0 rfl rfl 0 (by decide) (hta _ w280) (fun _ h9 => h9) rfl dM_told_39 ?_
            refine lv_if_le (tgt := 47) hx hb dM_told_42 (by decide) (fun hz => ?_) (fun hz => ?_)
            · skip
              exact absurd hz (by decide)
            · skip
              refine lv_lconst (v := 0) hx hb dM_told_45 (by decide) ?_
              exact W.lret (v := 0) hx hb hr (fun t9 ht9 hW9 => ⟨⟨0, (), rfl, (if_neg (fun q => absurd q.2.2.2 (Int32.not_le.mpr h5))).symm, ⟨fun h9 => absurd h9 (fun q => absurd q.2.2.2 (Int32.not_le.mpr h5)), fun _ => ⟨_, _, _, _, _, hrep, by rw [ht9]; exact hP, va_K.moved hW9.alike hK, hD⟩⟩⟩, hS.F ht9⟩) hS.2.2 dM_told_46
          · skip
            refine lv_iconst (v := 0) hx hb dM_told_30 (by decide) ?_
            refine lv_goto (tgt := 35) hx hb dM_told_31 (by decide) ?_
            refine va_put (D := (dC, dI)) (ci := 1) (v := .int 0) (ty := .int) (C := "GroupRowsModel") (T := FM) (N := 11) hx hb hta inM tM tMok nM hown hK hP hD hS 0 rfl rfl 0 (by decide) (hta _ w280) (fun _ h9 => h9) rfl (by decide +kernel) rfl rfl (Nat.le_of_ble_eq_true rfl) dM_told_35 (fun H locs hP hD hS => ?_)
            have hP : va_P (dC, dI) classes (wM b d 0 (nI wn) (nI mn) (nI T.1) ks2 ct2 sm2 le2 gr2 fk fa) H := hP
            have hD : va_D A (wM b d 0 (nI wn) (nI mn) (nI T.1) ks2 ct2 sm2 le2 gr2 fk fa) := hD
            refine lv_aload_n hx hb dM_told_38 rfl (lv_at hl 0 rfl) ?_
            refine va_get (D := (dC, dI)) (ci := 1) (v := .int 0) (C := "GroupRowsModel") (T := FM) (N := 11) hx hb hta inM hown hK hP 0 rfl rfl 0 (by decide) (hta _ w280) (fun _ h9 => h9) rfl dM_told_39 ?_
            refine lv_if_le (tgt := 47) hx hb dM_told_42 (by decide) (fun hz => ?_) (fun hz => ?_)
            rotate_left
            · skip
              exact absurd (by decide) hz
            · skip
              have hL : (0 ≤ pl ∧ pl < nI T.1) ∧ (0 ≤ m0 ∧ m0 < nI mn) ∧ 0 ≤ wh ∧ wh ≤ 2 := ⟨hL1, ⟨Int32.not_lt.mp h2, Int32.not_le.mp h3⟩, Int32.not_lt.mp h4, Int32.not_lt.mp h5⟩
              obtain ⟨p0, hp0, ep, cp⟩ := in_nI (by omega) hL.1
              obtain ⟨j, hj, ej, cj⟩ := in_nI (by omega) hL.2.1
              subst ep
              subst ej
              refine lv_iload_n hx hb dM_told_47 rfl (lv_at hl 3 rfl) ?_
              refine lv_if_ne (tgt := 65) hx hb dM_told_48 (by decide) (fun h6 => ?_) (fun h6 => ?_)
              · skip
                refine lv_iload_n hx hb dM_told_65 rfl (lv_at hl 3 rfl) ?_
                refine lv_iconst (v := 1) hx hb dM_told_66 (by decide) ?_
                refine lv_icmp_ne (tgt := 84) hx hb dM_told_67 (by decide) (fun h7 => ?_) (fun h7 => ?_)
                · skip
                  refine lv_aload_n hx hb dM_told_84 rfl (lv_at hl 0 rfl) ?_
                  refine va_get (D := (dC, dI)) (ci := 1) (v := .ref (b 5)) (C := "GroupRowsModel") (T := FM) (N := 11) hx hb hta inM hown hK hP 0 rfl rfl 8 (by decide) (hta _ w288) (fun _ h9 => h9) rfl dM_told_85 ?_
                  refine lv_bipush (v := 8) hx hb dM_told_88 (by decide) ?_
                  refine lv_iload_n hx hb dM_told_90 rfl (lv_at hl 1 rfl) ?_
                  refine lv_imul hx hb dM_told_91 ?_
                  refine gi_as (y := nI (8 * p0)) (gi_8mul _) ?_
                  refine lv_iload_n hx hb dM_told_92 rfl (lv_at hl 2 rfl) ?_
                  refine lv_iadd hx hb dM_told_93 ?_
                  refine gi_as (y := nI ((8 * p0) + j)) (nI_add _ _) ?_
                  refine gi_lald hx hb hK hP 5 4 rfl rfl (k := ((8 * p0) + j)) (by omega) (by decide) dM_told_94 ?_
                  refine gi_asl (y := T.2.2.2.2.2 p0 j) ((hv9 p0 j hp0 hj).2.2) ?_
                  exact W.lret (v := (T.2.2.2.2.2 p0 j)) hx hb hr (fun t9 ht9 hW9 => ⟨⟨(T.2.2.2.2.2 p0 j), (), rfl, by rw [if_pos hL, cp, cj, if_neg h6, if_neg h7], ⟨fun _ => ⟨_, _, _, _, _, hrep, by rw [ht9]; exact hP, va_K.moved hW9.alike hK, hD⟩, fun h9 => absurd (hL) h9⟩⟩, hS.F ht9⟩) hS.2.2 dM_told_95
                · skip
                  refine lv_aload_n hx hb dM_told_70 rfl (lv_at hl 0 rfl) ?_
                  refine va_get (D := (dC, dI)) (ci := 1) (v := .ref (b 4)) (C := "GroupRowsModel") (T := FM) (N := 11) hx hb hta inM hown hK hP 0 rfl rfl 7 (by decide) (hta _ w287) (fun _ h9 => h9) rfl dM_told_71 ?_
                  refine lv_bipush (v := 8) hx hb dM_told_74 (by decide) ?_
                  refine lv_iload_n hx hb dM_told_76 rfl (lv_at hl 1 rfl) ?_
                  refine lv_imul hx hb dM_told_77 ?_
                  refine gi_as (y := nI (8 * p0)) (gi_8mul _) ?_
                  refine lv_iload_n hx hb dM_told_78 rfl (lv_at hl 2 rfl) ?_
                  refine lv_iadd hx hb dM_told_79 ?_
                  refine gi_as (y := nI ((8 * p0) + j)) (nI_add _ _) ?_
                  refine gi_lald hx hb hK hP 4 3 rfl rfl (k := ((8 * p0) + j)) (by omega) (by decide) dM_told_80 ?_
                  refine gi_asl (y := T.2.2.2.2.1 p0 j) ((hv9 p0 j hp0 hj).2.1) ?_
                  refine lv_goto (tgt := 95) hx hb dM_told_81 (by decide) ?_
                  exact W.lret (v := (T.2.2.2.2.1 p0 j)) hx hb hr (fun t9 ht9 hW9 => ⟨⟨(T.2.2.2.2.1 p0 j), (), rfl, by rw [if_pos hL, cp, cj, if_neg h6, if_pos h7], ⟨fun _ => ⟨_, _, _, _, _, hrep, by rw [ht9]; exact hP, va_K.moved hW9.alike hK, hD⟩, fun h9 => absurd (hL) h9⟩⟩, hS.F ht9⟩) hS.2.2 dM_told_95
              · skip
                refine lv_aload_n hx hb dM_told_51 rfl (lv_at hl 0 rfl) ?_
                refine va_get (D := (dC, dI)) (ci := 1) (v := .ref (b 3)) (C := "GroupRowsModel") (T := FM) (N := 11) hx hb hta inM hown hK hP 0 rfl rfl 6 (by decide) (hta _ w286) (fun _ h9 => h9) rfl dM_told_52 ?_
                refine lv_bipush (v := 8) hx hb dM_told_55 (by decide) ?_
                refine lv_iload_n hx hb dM_told_57 rfl (lv_at hl 1 rfl) ?_
                refine lv_imul hx hb dM_told_58 ?_
                refine gi_as (y := nI (8 * p0)) (gi_8mul _) ?_
                refine lv_iload_n hx hb dM_told_59 rfl (lv_at hl 2 rfl) ?_
                refine lv_iadd hx hb dM_told_60 ?_
                refine gi_as (y := nI ((8 * p0) + j)) (nI_add _ _) ?_
                refine gi_lald hx hb hK hP 3 2 rfl rfl (k := ((8 * p0) + j)) (by omega) (by decide) dM_told_61 ?_
                refine gi_asl (y := T.2.2.2.1 p0 j) ((hv9 p0 j hp0 hj).1) ?_
                refine lv_goto (tgt := 95) hx hb dM_told_62 (by decide) ?_
                exact W.lret (v := (T.2.2.2.1 p0 j)) hx hb hr (fun t9 ht9 hW9 => ⟨⟨(T.2.2.2.1 p0 j), (), rfl, by rw [if_pos hL, cp, cj, if_pos h6], ⟨fun _ => ⟨_, _, _, _, _, hrep, by rw [ht9]; exact hP, va_K.moved hW9.alike hK, hD⟩, fun h9 => absurd (hL) h9⟩⟩, hS.F ht9⟩) hS.2.2 dM_told_95
end
