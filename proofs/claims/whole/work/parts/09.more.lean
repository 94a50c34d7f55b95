/-! More rows of the abstract layer. -/
section Mo
variable {μ : aM} {R : Room} {Z : aZ} {pc : Nat} {L : List (Nat × Value)} {S : List Value} {n : Nat} {h : aH} {cells slots : Nat}
/-- fewer locals -/
theorem T_loc {L' : List (Nat × Value)} (ks : List Nat) (hl : lv_pick L ks = L') (k : Tri μ R Z pc L' S n h cells slots) : Tri μ R Z pc L S n h cells slots := by
  intro p l e s m args below meth c κ D b bs X0 H locs ls C T V
  refine k p l e s m args below meth c κ D b bs X0 H locs ls C T ⟨V.1, V.2.1, fun q hq => ?_⟩
  rw [← hl] at hq
  obtain ⟨q0, h0, rfl⟩ := List.mem_map.mp hq
  obtain ⟨k0, -, hk⟩ := List.mem_filterMap.mp h0
  exact V.2.2 _ (List.mem_map.mpr ⟨q0, List.mem_of_getElem? hk, rfl⟩)
/-- a computed int on top gets a plainer form -/
theorem T_top {x y : Int32} (e : x = y) (k : Tri μ R Z pc L (.int y :: S) n h cells slots) : Tri μ R Z pc L (.int x :: S) n h cells slots := by
  subst e
  exact k
end Mo
