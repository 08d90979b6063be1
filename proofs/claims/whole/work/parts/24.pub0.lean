/-! small rows for the public methods -/
theorem gx_P {D : va_G} {cl : List vw_C} {ws : va_W} {H H1 : Heap} (h : va_P D cl ws H) (hk : ∀ q : Nat, q < H.size → H1[q]? = H[q]?) : va_P D cl ws H1 := fun k q hq => (h k q hq).kept (hk q.1 (h k q hq).lt)
theorem gx_F {A : Nat → Prop} {s t : State} {H : Heap} {locs : List Loc} (hS : va_S A s.heap H locs) (hz : H.size ≤ t.heap.size) (hk : ∀ q : Nat, q < H.size → t.heap[q]? = H[q]?) : va_F A s t := ⟨Nat.le_trans hS.1 hz, fun q h1 h2 => (hk q (Nat.lt_of_lt_of_le h1 hS.1)).trans (hS.2.1 q h1 h2)⟩
/-- a number in its bounds is one of mine -/
theorem in_nI {i : Int32} {n : Nat} (hn : n < 2 ^ 31) (h : 0 ≤ i ∧ i < nI n) : ∃ j : Nat, j < n ∧ i = nI j ∧ i.toNatClampNeg = j := by
  rcases pk_ix i hn with q | q | ⟨j, h1, h2⟩
  · exact absurd q (Int32.not_lt.mpr h.1)
  · exact absurd h.2 (Int32.not_lt.mpr q)
  · exact ⟨j, h1, h2, by rw [h2]; exact nI_clamp (by omega)⟩
theorem in_le {i : Int32} {n : Nat} (hn : n < 2 ^ 31) (h : 0 ≤ i ∧ i ≤ nI n) : ∃ j : Nat, j ≤ n ∧ i = nI j ∧ i.toNatClampNeg = j := by
  obtain ⟨j, h1, h2⟩ := nI_of2 (nI_toInt hn) (Int32.not_lt.mpr h.1) h.2
  exact ⟨j, h1, h2, by rw [h2]; exact nI_clamp (by omega)⟩
theorem i32_0le1 {i : Int32} (h : 1 ≤ i) : 0 ≤ i := by
  have a := Int32.le_iff_toInt_le.mp h
  have b : (1 : Int32).toInt = 1 := by decide
  have d : (0 : Int32).toInt = 0 := by decide
  exact Int32.le_iff_toInt_le.mpr (by omega)
theorem nI_1le {j : Nat} (h : j < 2 ^ 31) (h1 : (1 : Int32) ≤ nI j) : 1 ≤ j := (nI_leI (a := 1) (by decide) h).mp h1
