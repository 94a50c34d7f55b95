/-! OnceWireModel: its one object and its twenty arrays. σ: its ints and flags by slot; ν: its long; α: its arrays by number. -/
def mdL (m : Nat) (σ : Nat → Int32) (ν : Int64) : List Value := [.int (σ 0), .int (σ 1), .ref (m + 1), .ref (m + 2), .ref (m + 3), .ref (m + 4), .ref (m + 5), .ref (m + 6), .int (σ 8), .ref (m + 7), .int (σ 10), .int (σ 11), .long ν, .int (σ 13), .ref (m + 8), .ref (m + 9), .ref (m + 10), .ref (m + 11), .int (σ 18), .int (σ 19), .int (σ 20), .int (σ 21), .ref (m + 12), .ref (m + 13), .ref (m + 14), .int (σ 25), .ref (m + 15), .ref (m + 16), .ref (m + 17), .ref (m + 18), .ref (m + 19), .ref (m + 20)]
def mdT : Nat → FieldType × Nat
  | 1 => (.int, 4)
  | 2 => (.int, 4)
  | 3 => (.boolean, 4)
  | 4 => (.int, 8)
  | 5 => (.int, 32)
  | 6 => (.int, 210)
  | 7 => (.int, 210)
  | 8 => (.int, 2560)
  | 9 => (.int, 16)
  | 10 => (.boolean, 16)
  | 11 => (.int, 200)
  | 12 => (.int, 4)
  | 13 => (.int, 4)
  | 14 => (.int, 4)
  | 15 => (.int, 100)
  | 16 => (.int, 100)
  | 17 => (.int, 100)
  | 18 => (.int, 1280)
  | 19 => (.int, 8)
  | _ => (.int, 8)
def Md (h : aH) (m : Nat) (σ : Nat → Int32) (ν : Int64) (α : Nat → Nat → Int32) : Prop := h m = some (.inr (10, mdL m σ ν)) ∧ ∀ j, 1 ≤ j → j ≤ 20 → h (m + j) = some (.inl ((mdT j).1, (mdT j).2, .inl (α j)))
theorem Md.arr {h : aH} {m : Nat} {σ : Nat → Int32} {ν : Int64} {α : Nat → Nat → Int32} (hM : Md h m σ ν α) (j : Nat) (h1 : 1 ≤ j := by decide) (h2 : j ≤ 20 := by decide) : h (m + j) = some (.inl ((mdT j).1, (mdT j).2, .inl (α j))) := hM.2 j h1 h2
/-- one of its ints is written -/
theorem Md.put {h h' : aH} {m : Nat} {σ : Nat → Int32} {ν : Int64} {α : Nat → Nat → Int32} (hM : Md h m σ ν α) {fs : List Value} (k : Nat) (v : Int32) (g : h' m = some (.inr (10, fs))) (o : ∀ q, q ≠ m → h' q = h q) (hf : fs = mdL m (upd σ k v) ν) : Md h' m (upd σ k v) ν α :=
  ⟨by rw [g, hf], fun j h1 h2 => (o (m + j) (by omega)).trans (hM.2 j h1 h2)⟩
/-- its long is written -/
theorem Md.putl {h h' : aH} {m : Nat} {σ : Nat → Int32} {ν : Int64} {α : Nat → Nat → Int32} (hM : Md h m σ ν α) {fs : List Value} (v : Int64) (g : h' m = some (.inr (10, fs))) (o : ∀ q, q ≠ m → h' q = h q) (hf : fs = mdL m σ v) : Md h' m σ v α :=
  ⟨by rw [g, hf], fun j h1 h2 => (o (m + j) (by omega)).trans (hM.2 j h1 h2)⟩
/-- one of its arrays is written -/
theorem Md.ast {h h' : aH} {m : Nat} {σ : Nat → Int32} {ν : Int64} {α : Nat → Nat → Int32} (hM : Md h m σ ν α) (j : Nat) {f : Nat → Int32} (g : h' (m + j) = some (.inl ((mdT j).1, (mdT j).2, .inl f))) (o : ∀ q, q ≠ m + j → h' q = h q) (h1 : 1 ≤ j := by decide) : Md h' m σ ν (va_up α j f) := by
  refine ⟨(o m (by omega)).trans hM.1, fun i i1 i2 => ?_⟩
  by_cases hi : i = j
  · subst hi
    rw [va_up_self]
    exact g
  · rw [va_up_ne α f hi]
    exact (o (m + i) (by omega)).trans (hM.2 i i1 i2)
/-- what lies elsewhere is the same -/
def mdO (h h' : aH) (m : Nat) : Prop := ∀ q, q < m ∨ m + 20 < q → h' q = h q
theorem mdO.rf {h : aH} {m : Nat} : mdO h h m := fun _ _ => rfl
theorem mdO.tr {h h1 h2 : aH} {m : Nat} (a : mdO h h1 m) (b : mdO h1 h2 m) : mdO h h2 m := fun q hq => (b q hq).trans (a q hq)
theorem mdO.o {h h1 h2 : aH} {m j : Nat} (a : mdO h h1 m) (o : ∀ q, q ≠ m + j → h2 q = h1 q) (hj : j ≤ 20) : mdO h h2 m := fun q hq => (o q (by omega)).trans (a q hq)
