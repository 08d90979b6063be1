/-! more rows: a copy by numbers of mine; arrays written one place after the other -/
theorem gi_nn {n : Nat} (h : n < 2 ^ 31) : ¬ nI n < 0 := nI_pos h
section GJ
variable {p : Program} {l : Launch} {e : Env} {R : Room} {s : State} {m : MethodId} {args : Array Value} {below : List Frame} {meth : Method} {c : Code} {H : Heap} {locs : List Loc} {cells slots : Nat} {Q : State → Prop}
variable {cc : ByteArray} {pc : Nat} {ls : Array Slot} {rest : List Value} {D : va_G} {cl : List vw_C} {A : Nat → Prop} {a : Nat} {tys : List (ClassId × FieldType)} {ws : va_W} {H0 : Heap}
theorem gi_copyi (hexec : p.tables.exec = Jvm.exec) (hb : c.code = cc) (hml : c.maxLocals = ls.size) {own : String} {index : Nat} (hown : s.vm.findClass own = some m.cls) (hlink : (Cond.methodLink own index arraycopyName).before args s = true) (hnat : (Cond.native arraycopyName).before args s = true) (hstat : (Cond.static arraycopyName).before args s = true) (hini : (Cond.initialized "java/lang/System").before args s = true)
    (hK : va_K D cl tys s) (hP : va_P D cl ws H) (hD : va_D A ws) (hS : va_S A H0 H locs) (q0 q1 t0 t1 : Nat) {a0 : Nat} {c0 c1 : ClassId} {n0 n1 : Nat} {f g : Nat → Int32} (ha0 : ws[q0]? = some (a0, .inl (c0, n0, .inl f))) (ha1 : ws[q1]? = some (a, .inl (c1, n1, .inl g))) (ht0 : tys[t0]? = some (c0, .int)) (ht1 : tys[t1]? = some (c1, .int))
    {x y z : Nat} (h4 : x + z ≤ n0) (h5 : y + z ≤ n1) (hn0 : n0 < 2 ^ 31) (hn1 : n1 < 2 ^ 31)
    (hframes : 1 ≤ R.frames) (hlocals : (rest.map fun v => v.category).sum + (nativeFrameWords "java/lang/System" "arraycopy" 5 + 11) ≤ R.locals) (hdg : decode cc pc = .ok (.invokestatic index, 3))
    (kk : ∀ (H1 : Heap) (locs1 : List Loc), va_P D cl (ws.set q1 (a, .inl (c1, n1, .inl (va_cpy f g x y z)))) H1 → va_D A (ws.set q1 (a, .inl (c1, n1, .inl (va_cpy f g x y z)))) → va_S A H0 H1 locs1 → W p l e R s m args below meth c H1 locs1 cells slots Q (F0 m (pc + 3) ls rest)) : W p l e R s m args below meth c H locs cells slots Q (F0 m pc ls (.int (nI z) :: .int (nI y) :: .ref a :: .int (nI x) :: .ref a0 :: rest)) := by
  have hx : x < 2 ^ 31 := by omega
  have hy : y < 2 ^ 31 := by omega
  have hz : z < 2 ^ 31 := by omega
  refine va_copyi hexec hb hml hown hlink hnat hstat hini hK hP hD hS q0 q1 t0 t1 ha0 ha1 ht0 ht1 rfl (gi_nn hx) (gi_nn hy) (gi_nn hz) (by rw [nI_clamp hx, nI_clamp hz]; exact h4) (by rw [nI_clamp hy, nI_clamp hz]; exact h5) (fun _ _ => rfl) hframes hlocals hdg ?_
  rw [nI_clamp hx, nI_clamp hy, nI_clamp hz]
  exact kk
end GJ
/-- the places q8 .. q8 + m - 1 written one after the other: what each becomes of what it was -/
def upTo (g : Nat → Int64 → Int64) (q8 : Nat) (f : Nat → Int64) : Nat → Nat → Int64
  | 0 => f
  | m + 1 => vp_updL (upTo g q8 f m) (q8 + m) (g m (upTo g q8 f m (q8 + m)))
theorem upTo_out {g : Nat → Int64 → Int64} {q8 : Nat} {f : Nat → Int64} {x : Nat} : ∀ m, (x < q8 ∨ q8 + m ≤ x) → upTo g q8 f m x = f x := by
  intro m
  induction m with
  | zero => intro _; rfl
  | succ m ih =>
    intro h
    show vp_updL (upTo g q8 f m) (q8 + m) _ x = f x
    rw [pk_uLn (by omega)]
    exact ih (by omega)
theorem upTo_at {g : Nat → Int64 → Int64} {q8 : Nat} {f : Nat → Int64} {j : Nat} : ∀ m, j < m → upTo g q8 f m (q8 + j) = g j (f (q8 + j)) := by
  intro m
  induction m with
  | zero => intro h; omega
  | succ m ih =>
    intro h
    show vp_updL (upTo g q8 f m) (q8 + m) _ (q8 + j) = _
    by_cases q : j = m
    · subst q; rw [pk_uLs, upTo_out j (by omega)]
    · rw [pk_uLn (by omega)]; exact ih (by omega)
/-- .. the same for ints -/
def upToI (g : Nat → Int32 → Int32) (q8 : Nat) (f : Nat → Int32) : Nat → Nat → Int32
  | 0 => f
  | m + 1 => upd (upToI g q8 f m) (q8 + m) (g m (upToI g q8 f m (q8 + m)))
theorem upToI_out {g : Nat → Int32 → Int32} {q8 : Nat} {f : Nat → Int32} {x : Nat} : ∀ m, (x < q8 ∨ q8 + m ≤ x) → upToI g q8 f m x = f x := by
  intro m
  induction m with
  | zero => intro _; rfl
  | succ m ih =>
    intro h
    show upd (upToI g q8 f m) (q8 + m) _ x = f x
    rw [pk_un (by omega)]
    exact ih (by omega)
theorem upToI_at {g : Nat → Int32 → Int32} {q8 : Nat} {f : Nat → Int32} {j : Nat} : ∀ m, j < m → upToI g q8 f m (q8 + j) = g j (f (q8 + j)) := by
  intro m
  induction m with
  | zero => intro h; omega
  | succ m ih =>
    intro h
    show upd (upToI g q8 f m) (q8 + m) _ (q8 + j) = _
    by_cases q : j = m
    · subst q; rw [pk_us, upToI_out j (by omega)]
    · rw [pk_un (by omega)]; exact ih (by omega)
/-- the slots with one put in at a place -/
def insL (sl : Nat → Int32) (pl am : Nat) (v : Int32) : Nat → Int32 := fun q => if q < pl then sl q else if q = pl then v else if q ≤ am then sl (q - 1) else sl q
theorem insL_is {sl : Nat → Int32} {pl am : Nat} {v : Int32} (h : pl ≤ am) : upd (va_cpy sl sl pl (pl + 1) (am - pl)) pl v = insL sl pl am v := by
  funext q
  unfold upd va_cpy insL
  by_cases h1 : q = pl
  · subst h1; simp
  · by_cases h2 : q < pl
    · have h3 : ¬ (pl + 1 ≤ q ∧ q < pl + 1 + (am - pl)) := by omega
      simp [h1, h2, h3]
    · by_cases h4 : q ≤ am
      · have h3 : pl + 1 ≤ q ∧ q < pl + 1 + (am - pl) := by omega
        have h5 : pl + (q - (pl + 1)) = q - 1 := by omega
        simp [h1, h2, h3, h4, h5]
      · have h3 : ¬ (pl + 1 ≤ q ∧ q < pl + 1 + (am - pl)) := by omega
        simp [h1, h2, h3, h4]
