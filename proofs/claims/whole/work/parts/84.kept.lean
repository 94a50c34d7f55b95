/-! What ties the class's state to the model's, and what is kept. -/
theorem byt_app {a b : List Int32} (ha : byt a) (hb : byt b) : byt (a ++ b) := fun x hx => by
  rcases List.mem_append.mp hx with z | z
  · exact ha x z
  · exact hb x z
theorem byt_255 (x : Int32) : ∃ k : Nat, k < 256 ∧ x &&& 255 = nI k := pk_andE x 8 (by decide)
theorem byt_wby (x : Int32) : byt (wby x) := fun b hb => by
  simp only [wby, List.mem_cons, List.not_mem_nil, or_false] at hb
  rcases hb with z | z | z | z <;> rw [z] <;> exact byt_255 _
theorem byt_nil : byt [] := fun b hb => by cases hb
theorem byt_wrap : ∀ (k : Nat) (l : List Int32), byt l → byt (wrapL k l)
  | 0, l, _ => byt_nil
  | k + 1, l, h => by
    rw [wrapL]
    split
    · exact byt_nil
    · split
      · exact byt_app (byt_wby _) h
      · exact byt_app (byt_wby _) (byt_app (fun b hb => h b (List.mem_of_mem_take hb)) (byt_wrap k _ (fun b hb => h b (List.mem_of_mem_drop hb))))
theorem byt_flat {β : Type} (f : β → List Int32) (l : List β) (h : ∀ x, x ∈ l → byt (f x)) : byt (l.flatMap f) := fun b hb => by
  obtain ⟨x, hx, hb⟩ := List.mem_flatMap.mp hb
  exact h x hx b hb
theorem byt_vi : ∀ (k m : Nat), m < 128 ^ (k + 1) → byt (vi k m)
  | 0, m, h => fun b hb => by
    rw [vi] at hb
    rw [List.mem_singleton.mp hb]
    exact ⟨m, by omega, rfl⟩
  | k + 1, m, h => by
    rw [vi]
    split
    · intro b hb
      rw [List.mem_singleton.mp hb]
      exact ⟨m, by omega, rfl⟩
    · intro b hb
      rcases List.mem_cons.mp hb with z | z
      · exact ⟨m % 128 + 128, by omega, z⟩
      · exact byt_vi k (m / 128) (Nat.div_lt_of_lt_mul (by rw [Nat.pow_succ] at h; omega)) b z
theorem byt_wInt (k : Nat) (x : Int32) : byt (wInt k x) := by
  unfold wInt
  split
  · exact byt_wby _
  · split
    · exact byt_vi 4 _ (Nat.lt_of_lt_of_le (zig_lt x) (by decide))
    · exact byt_vi 4 _ (Nat.lt_of_lt_of_le (u32_lt x) (by decide))
theorem byt_encT : ∀ (ts : List Sf) (us : List (List Int32)), (∀ t, t ∈ ts → t.1 ≤ 30) → byt (encT ts us)
  | [], us, _ => by
    unfold encT
    exact byt_nil
  | t :: ts, [], _ => by
    unfold encT
    exact byt_nil
  | t :: ts, w :: us, h => by
    rw [encT]
    refine byt_app (byt_flat _ _ (fun x _ => ?_)) (byt_encT ts us (fun u hu => h u (List.mem_cons_of_mem _ hu)))
    unfold encT1
    split
    · exact byt_app (byt_vi 4 _ (Nat.lt_of_lt_of_le (keyN_lt (h t List.mem_cons_self)) (by decide))) (byt_wInt _ _)
    · exact byt_nil
theorem byt_encW : ∀ (ts : List Sf) (us : List (List Int32)), byt (encW ts us)
  | [], us => by
    unfold encW
    exact byt_nil
  | t :: ts, [] => by
    unfold encW
    exact byt_nil
  | t :: ts, w :: us => by
    rw [encW]
    refine byt_app ?_ (byt_app (byt_flat _ _ (fun x _ => byt_wby x)) (byt_encW ts us))
    split
    · exact byt_wby _
    · exact byt_nil
theorem byt_req {wf : Bool} {ns : List Sf} {vs : List (List Int32)} {xid pr : Int32} (h30 : ∀ t, t ∈ ns → t.1 ≤ 30) : byt (reqB wf ns vs xid pr) := by
  refine byt_wrap _ _ (byt_app (byt_wby _) (byt_app (byt_wby _) (byt_app (byt_wby _) ?_)))
  unfold enc
  split
  · exact byt_encW _ _
  · exact byt_encT _ _ h30
theorem byt_rep (xid st res : Int32) : byt (repB xid st res) := by
  refine byt_wrap _ _ (byt_app (byt_wby _) (byt_app (byt_wby _) (byt_app (byt_wby _) ?_)))
  split
  · exact byt_wby _
  · exact byt_nil
abbrev msB (ms : List Mg) : Prop := ∀ g, g ∈ ms → byt g.1
abbrev psB (ps : List Pd) : Prop := ∀ g, g ∈ ps → byt g.2.2
theorem msB_psh {ms : List Mg} {g : Mg} (h : msB ms) (hg : byt g.1) : msB (psh ms g) := by
  unfold psh
  split
  · intro x hx
    rcases List.mem_append.mp hx with z | z
    · exact h x z
    · rw [List.mem_singleton.mp z]
      exact hg
  · exact h
theorem msB.er {ms : List Mg} (h : msB ms) (k : Nat) : msB (ms.eraseIdx k) := fun g hg => h g (List.mem_of_mem_eraseIdx hg)
theorem msB.getD {ms : List Mg} (h : msB ms) (k : Nat) : byt (ms.getD k ([], false)).1 := by
  rw [List.getD_eq_getElem?_getD]
  cases e : ms[k]? with
  | none => exact byt_nil
  | some g => exact h g (List.mem_of_getElem? e)
theorem goB : ∀ (ps : List Pd) (ms : List Mg) (k : Int32), psB ps → msB ms → psB (goF ps ms k).1 ∧ msB (goF ps ms k).2.1
  | [], ms, k, hp, hm => ⟨hp, hm⟩
  | g :: t, ms, k, hp, hm => by
    have ht : psB t := fun x hx => hp x (List.mem_cons_of_mem _ hx)
    have hg : byt g.2.2 := hp g List.mem_cons_self
    rw [goF]
    split
    · obtain ⟨h1, h2⟩ := goB t (psh ms (g.2.2, true)) (k + 1) ht (msB_psh hm hg)
      refine ⟨fun x hx => ?_, h2⟩
      rcases List.mem_cons.mp hx with z | z
      · rw [z]
        exact hg
      · exact h1 x z
    · obtain ⟨h1, h2⟩ := goB t ms k ht hm
      refine ⟨fun x hx => ?_, h2⟩
      rcases List.mem_cons.mp hx with z | z
      · rw [z]
        exact hg
      · exact h1 x z
theorem plB {wf : Bool} {ns : List Sf} {vs : List (List Int32)} {cs : List (Int32 × Int32)} {ps : List Pd} {ms : List Mg} {pr : Int32} (h30 : ∀ t, t ∈ ns → t.1 ≤ 30) (hp : psB ps) (hm : msB ms) : psB (plcF wf ns vs cs ps ms pr).2.2.1 ∧ msB (plcF wf ns vs cs ps ms pr).2.2.2 := by
  unfold plcF
  split
  · exact ⟨hp, hm⟩
  · split
    · exact ⟨hp, hm⟩
    · refine ⟨fun x hx => ?_, msB_psh hm (byt_req h30)⟩
      rcases List.mem_append.mp hx with z | z
      · exact hp x z
      · rw [List.mem_singleton.mp z]
        exact byt_req h30
theorem cgB {cs : List (Int32 × Int32)} {ps : List Pd} {l : List Int32} (hp : psB ps) : psB (cliG cs ps l).2.2 := by
  unfold cliG
  cases ppF (wat l 0) ps 0 with
  | none => exact hp
  | some k => exact fun g hg => hp g (List.mem_of_mem_eraseIdx hg)
theorem clB {cs : List (Int32 × Int32)} {ps : List Pd} {l : List Int32} (hp : psB ps) : psB (cliF cs ps l).2.2 := by
  have key : ∀ (c : Prop) [Decidable c] (a b : Cs), psB a.2.2 → psB b.2.2 → psB (if c then a else b).2.2 := fun c _ a b ha hb => by
    by_cases z : c
    · rw [if_pos z]
      exact ha
    · rw [if_neg z]
      exact hb
  unfold cliF
  cases uw l.length l with
  | none => exact hp
  | some x => exact key _ _ _ hp (key _ _ _ hp (key _ _ _ hp (key _ _ _ hp (cgB hp))))
theorem cpB {ms : List Mg} {k : Int32} (h : msB ms) : msB (cpyF ms k).2 := by
  unfold cpyF
  split
  · intro x hx
    rcases List.mem_append.mp hx with z | z
    · exact h x z
    · rw [List.mem_singleton.mp z]
      exact h.getD _
  · exact h
theorem adB {db : List Int32} {b : Int32} (h : byt db) : byt (addF db b).2 := by
  unfold addF
  split
  · exact h
  · rename_i z
    split
    · refine byt_app h (fun x hx => ?_)
      rw [List.mem_singleton.mp hx]
      obtain ⟨k, hk, e⟩ := nI_of2 (x := b) (M := 255) (n := 255) (by decide) (fun w => z (Or.inl w)) (Int32.not_lt.mp (fun w => z (Or.inr w)))
      exact ⟨k, by omega, e⟩
    · exact h
theorem msFB {wf : Bool} {ns : List Sf} {kl : List Kt} {tot run : Int32} {ms : List Mg} {l : List Int32} (h : msB ms) : msB (msF wf ns kl tot run ms l).2.2.2.2 := by
  unfold msF
  split
  · exact h
  · split
    · exact h
    · split
      · exact h
      · unfold msG
        split
        · exact msB_psh h (byt_rep _ _ _)
        · exact msB_psh h (byt_rep _ _ _)
theorem ixF_no (x : Int32) : ∀ (ts : List Sf) (i : Nat), ixF x ts i = none → ∀ t, t ∈ ts → nI t.1 ≠ x
  | [], _, _, t, ht => by cases ht
  | a :: ts, i, h, t, ht => by
    rw [ixF] at h
    by_cases e : nI a.1 = x
    · rw [if_pos e] at h
      cases h
    · rw [if_neg e] at h
      rcases List.mem_cons.mp ht with z | z
      · rw [z]
        exact e
      · exact ixF_no x ts (i + 1) h t z
theorem dclN {ns : List Sf} {x k : Int32} {r : Bool} (hn : nsN ns) (h30 : ∀ t, t ∈ ns → t.1 ≤ 30) : nsN (dcl ns x k r).2 := by
  unfold dcl
  split
  · exact hn
  · rename_i z
    split
    · exact hn
    · rename_i y
      split
      · exact hn
      · show ((ns ++ [(x.toNatClampNeg, k.toNatClampNeg, r)]).map (fun t => t.1)).Nodup
        rw [List.map_append]
        refine List.nodup_append.mpr ⟨hn, by simp, fun a ha b hb => ?_⟩
        obtain ⟨t, ht, e⟩ := List.mem_map.mp ha
        have hb2 : b = x.toNatClampNeg := by simpa using hb
        intro w
        obtain ⟨j, hj, ej⟩ := nI_of2 (x := x) (M := 30) (n := 30) (by decide) (fun w => z (Or.inl (Int32.lt_trans w (by decide)))) (Int32.not_lt.mp (fun w => z (Or.inr (Or.inl w))))
        rw [ej, nI_clamp (by omega)] at hb2
        exact ixF_no x ns 0 (Classical.not_not.mp y) t ht (by rw [ej, e, w, hb2])
theorem vOk_fld {ns : List Sf} {vs : List (List Int32)} {x k : Int32} {r : Bool} (h : vOk ns vs) (hl : vs.length = ns.length) : vOk (dcl ns x k r).2 (fldV ns vs x k r) := by
  unfold fldV
  rcases dcl_or ns x k r with e | ⟨e, h4⟩
  · rw [e, if_pos rfl]
    exact h
  · rw [e, if_neg (by simp)]
    intro i t w ht hw h3 y hy
    rcases Nat.lt_or_ge i ns.length with z | z
    · rw [List.getElem?_append_left z] at ht
      rw [List.getElem?_append_left (by omega)] at hw
      exact h i t w ht hw h3 y hy
    · rw [List.getElem?_append_right (by omega)] at hw
      have hi : i - vs.length = 0 := by
        have := (List.getElem?_eq_some_iff.mp hw).1
        simp at this
        omega
      rw [hi] at hw
      have hw2 : (if r then [] else [0]) = w := by simpa using hw
      rw [← hw2] at hy
      split at hy
      · cases hy
      · exact Or.inl (List.mem_singleton.mp hy)
theorem vOk_nil (ns : List Sf) : vOk ns (vnil ns) := by
  intro i t w ht hw h3 y hy
  rw [vnil, List.getElem?_map, ht] at hw
  have hw2 : (if t.2.2 then [] else [0]) = w := by simpa using hw
  rw [← hw2] at hy
  split at hy
  · cases hy
  · exact Or.inl (List.mem_singleton.mp hy)
theorem vOk_put {ns : List Sf} {vs : List (List Int32)} {f v : Int32} (h : vOk ns vs) : vOk ns ((putF ns vs f v).getD vs) := by
  unfold putF
  split
  · cases ht : ns[f.toNatClampNeg]? with
    | none => exact h
    | some t =>
      show vOk ns ((if t.2.1 = 3 ∧ v ≠ 0 ∧ v ≠ 1 then none else stv ns vs f.toNatClampNeg v).getD vs)
      split
      · exact h
      · rename_i z
        have hv : t.2.1 = 3 → v = 0 ∨ v = 1 := fun h3 => by
          by_cases e0 : v = 0
          · exact Or.inl e0
          · by_cases e1 : v = 1
            · exact Or.inr e1
            · exact absurd ⟨h3, e0, e1⟩ z
        have key : ∀ w', (∀ y, y ∈ w' → t.2.1 = 3 → y = 0 ∨ y = 1) → vOk ns (vs.set f.toNatClampNeg w') := fun w' hw' => by
          intro i t2 w ht2 hw h3 y hy
          by_cases e : i = f.toNatClampNeg
          · subst e
            rw [ht] at ht2
            cases ht2
            have hlt : f.toNatClampNeg < vs.length := by
              have := (List.getElem?_eq_some_iff.mp hw).1
              simpa using this
            rw [List.getElem?_set_self hlt] at hw
            cases hw
            exact hw' y hy h3
          · rw [List.getElem?_set_ne (fun z => e z.symm)] at hw
            exact h i t2 w ht2 hw h3 y hy
        unfold stv
        rw [ht]
        cases hw : vs[f.toNatClampNeg]? with
        | none => exact h
        | some w =>
          simp only []
          split
          · split
            · refine key _ (fun y hy h3 => ?_)
              rcases List.mem_append.mp hy with q | q
              · exact h _ t w ht hw h3 y q
              · rw [List.mem_singleton.mp q]
                exact hv h3
            · exact h
          · refine key _ (fun y hy h3 => ?_)
            rw [List.mem_singleton.mp hy]
            exact hv h3
  · exact h
