/-! What the server remembers, on both sides. -/
abbrev kE (k : Kt) : Kn := (k.1, repB k.1 k.2.1 k.2.2)
def kR (kl : List Kt) (sl : List Kn) (old : Nat) : Prop := kl.map kE = sl.drop old ++ sl.take old ∧ (kl.map (fun k => k.1)).Nodup ∧ sl.length ≤ 4 ∧ old < 4 ∧ (sl.length < 4 → old = 0)
theorem kmF_some (x : Int32) : ∀ (kl : List Kt) (k : Kt), kmF x kl = some k → k ∈ kl ∧ k.1 = x
  | [], k, h => by cases h
  | a :: t, k, h => by
    rw [kmF] at h
    by_cases e : a.1 = x
    · rw [if_pos e] at h
      cases h
      exact ⟨List.mem_cons_self, e⟩
    · rw [if_neg e] at h
      have := kmF_some x t k h
      exact ⟨List.mem_cons_of_mem _ this.1, this.2⟩
theorem kmF_none (x : Int32) : ∀ (kl : List Kt), kmF x kl = none ↔ ∀ k, k ∈ kl → k.1 ≠ x
  | [] => ⟨fun _ k h => (by cases h), fun _ => rfl⟩
  | a :: t => by
    rw [kmF]
    by_cases e : a.1 = x
    · rw [if_pos e]
      exact ⟨fun h => (by cases h), fun h => absurd e (h a List.mem_cons_self)⟩
    · rw [if_neg e, kmF_none x t]
      constructor
      · intro h k hk
        rcases List.mem_cons.mp hk with z | z
        · rw [z]
          exact e
        · exact h k z
      · exact fun h k hk => h k (List.mem_cons_of_mem _ hk)
theorem kfF_some (x : Int32) : ∀ (sl : List Kn) (i j : Nat), kfF x sl i = some j → i ≤ j ∧ ∃ m, sl[j - i]? = some m ∧ m.1 = x
  | [], i, j, h => by cases h
  | a :: t, i, j, h => by
    rw [kfF] at h
    by_cases e : a.1 = x
    · rw [if_pos e] at h
      cases h
      exact ⟨Nat.le_refl _, a, by simp, e⟩
    · rw [if_neg e] at h
      obtain ⟨h0, m, h1, h2⟩ := kfF_some x t (i + 1) j h
      refine ⟨by omega, m, ?_, h2⟩
      rw [show j - i = (j - (i + 1)) + 1 by omega]
      simpa using h1
theorem kfF_none (x : Int32) : ∀ (sl : List Kn) (i : Nat), (∀ m, m ∈ sl → m.1 ≠ x) → kfF x sl i = none
  | [], _, _ => rfl
  | a :: t, i, h => by
    rw [kfF, if_neg (h a List.mem_cons_self)]
    exact kfF_none x t (i + 1) (fun m hm => h m (List.mem_cons_of_mem _ hm))
theorem kR.mem {kl : List Kt} {sl : List Kn} {old : Nat} (h : kR kl sl old) (m : Kn) : m ∈ sl ↔ ∃ k, k ∈ kl ∧ kE k = m := by
  have h1 : m ∈ kl.map kE ↔ m ∈ sl := by
    rw [h.1, List.mem_append, Or.comm, ← List.mem_append, List.take_append_drop]
  rw [← h1]
  exact List.mem_map
theorem kR.len {kl : List Kt} {sl : List Kn} {old : Nat} (h : kR kl sl old) : kl.length = sl.length := by
  have h1 := congrArg List.length h.1
  rw [List.length_map, List.length_append, List.length_drop, List.length_take] at h1
  omega
theorem nd_inj {kl : List Kt} (hn : (kl.map (fun k => k.1)).Nodup) {a b : Kt} (ha : a ∈ kl) (hb : b ∈ kl) (e : a.1 = b.1) : a = b := by
  induction kl with
  | nil => cases ha
  | cons x t ih =>
    rw [List.map_cons] at hn
    have h1 := List.nodup_cons.mp hn
    rcases List.mem_cons.mp ha with z | z
    · rcases List.mem_cons.mp hb with w | w
      · rw [z, w]
      · exact absurd (List.mem_map.mpr ⟨b, w, by rw [← e, z]⟩) h1.1
    · rcases List.mem_cons.mp hb with w | w
      · exact absurd (List.mem_map.mpr ⟨a, z, by rw [e, w]⟩) h1.1
      · exact ih h1.2 z w
theorem kR.hit {kl : List Kt} {sl : List Kn} {old : Nat} (h : kR kl sl old) (x : Int32) : match kmF x kl with | none => kfF x sl 0 = none | some k => ∃ i, kfF x sl 0 = some i ∧ (sl.getD i (0, [])).2 = repB x k.2.1 k.2.2 := by
  cases hk : kmF x kl with
  | none =>
    refine kfF_none x sl 0 (fun m hm e => ?_)
    obtain ⟨k, hk1, hk2⟩ := (h.mem m).mp hm
    exact (kmF_none x kl).mp hk k hk1 (by rw [← e, ← hk2])
  | some k =>
    obtain ⟨k1, k2⟩ := kmF_some x kl k hk
    cases hf : kfF x sl 0 with
    | none =>
      have hm : kE k ∈ sl := (h.mem _).mpr ⟨k, k1, rfl⟩
      have key : ∀ (l : List Kn) (i : Nat), kfF x l i = none → ∀ m, m ∈ l → m.1 ≠ x := fun l => by
        induction l with
        | nil => intro i _ m hm; cases hm
        | cons a t ih =>
          intro i hz m hm
          rw [kfF] at hz
          by_cases e : a.1 = x
          · rw [if_pos e] at hz
            cases hz
          · rw [if_neg e] at hz
            rcases List.mem_cons.mp hm with z | z
            · rw [z]
              exact e
            · exact ih (i + 1) hz m z
      exact absurd k2 (key sl 0 hf _ hm)
    | some i =>
      obtain ⟨_, m, hm, e⟩ := kfF_some x sl 0 i hf
      rw [Nat.sub_zero] at hm
      obtain ⟨k', hk1, hk2⟩ := (h.mem m).mp (List.mem_of_getElem? hm)
      have : k' = k := nd_inj h.2.1 hk1 k1 (by rw [k2, ← e, ← hk2])
      subst this
      refine ⟨i, rfl, ?_⟩
      rw [List.getD_eq_getElem?_getD, hm, ← hk2, ← k2]
      rfl
theorem kR.add {kl : List Kt} {sl : List Kn} {old : Nat} (h : kR kl sl old) {x st res : Int32} (hx : kmF x kl = none) : kR (remF kl (x, st, res)) (adS sl old (x, repB x st res)) (slO sl.length old) := by
  obtain ⟨h1, h2, h3, h4, h5⟩ := id h
  have hl := h.len
  have hno := (kmF_none x kl).mp hx
  have hsub : ∀ l : List Kt, l.Sublist kl → ((l ++ [(x, st, res)]).map (fun k => k.1)).Nodup := fun l hs => by
    rw [List.map_append]
    refine List.nodup_append.mpr ⟨List.Nodup.sublist (hs.map _) h2, by simp, fun a ha b hb => ?_⟩
    obtain ⟨k, hk, e⟩ := List.mem_map.mp ha
    have hb2 : b = x := by simpa using hb
    rw [hb2, ← e]
    exact hno k (hs.subset hk)
  unfold remF adS slO
  rcases Nat.lt_or_ge sl.length 4 with z | z
  · have h0 := h5 z
    subst h0
    rw [if_pos z, if_pos z, if_neg (by omega)]
    refine ⟨?_, hsub kl (List.Sublist.refl _), by simp; omega, by decide, fun _ => rfl⟩
    rw [List.map_append, h1]
    simp
  · have h44 : sl.length = 4 := by omega
    rw [if_pos (show kl.length = 4 by omega), if_neg (show ¬ sl.length < 4 by omega), if_neg (show ¬ sl.length < 4 by omega)]
    refine ⟨?_, hsub kl.tail (List.tail_sublist _), by rw [List.length_set]; omega, Nat.mod_lt _ (by decide), fun w => by rw [List.length_set] at w; omega⟩
    rw [List.map_append, List.map_tail, h1]
    obtain ⟨a, b, c, d, rfl⟩ : ∃ a b c d, sl = [a, b, c, d] := by
      match sl, h44 with
      | [a, b, c, d], _ => exact ⟨a, b, c, d, rfl⟩
    rcases (show old = 0 ∨ old = 1 ∨ old = 2 ∨ old = 3 by omega) with rfl | rfl | rfl | rfl <;> rfl
theorem srv_ms {wf : Bool} {ns : List Sf} {kl : List Kt} {sl : List Kn} {old : Nat} {tot run : Int32} {ms : List Mg} {l : List Int32} (h : kR kl sl old) (hl : l.length ≤ 210) : (srvF wf ns sl old tot run ms l).1 = (msF wf ns kl tot run ms l).1 ∧ kR (msF wf ns kl tot run ms l).2.1 (srvF wf ns sl old tot run ms l).2.1 (srvF wf ns sl old tot run ms l).2.2.1 ∧ (srvF wf ns sl old tot run ms l).2.2.2.1 = (msF wf ns kl tot run ms l).2.2.1 ∧ (srvF wf ns sl old tot run ms l).2.2.2.2.1 = (msF wf ns kl tot run ms l).2.2.2.1 ∧ (srvF wf ns sl old tot run ms l).2.2.2.2.2 = (msF wf ns kl tot run ms l).2.2.2.2 := by
  unfold srvF msF
  rw [uw_60 hl]
  cases uw 60 l with
  | none => exact ⟨rfl, h, rfl, rfl, rfl⟩
  | some r =>
    simp only []
    by_cases z : r.length < 12
    · rw [if_pos z, if_pos z]
      exact ⟨rfl, h, rfl, rfl, rfl⟩
    · rw [if_neg z, if_neg z]
      by_cases y : wat r 4 ≠ 0
      · rw [if_pos y, if_pos y]
        exact ⟨rfl, h, rfl, rfl, rfl⟩
      · rw [if_neg y, if_neg y]
        have hh := h.hit (wat r 0)
        unfold srvG msG
        cases hk : kmF (wat r 0) kl with
        | none =>
          rw [hk] at hh
          rw [hh]
          exact ⟨rfl, h.add hk, rfl, rfl, rfl⟩
        | some k =>
          rw [hk] at hh
          obtain ⟨i, h1, h2⟩ := hh
          rw [h1]
          refine ⟨rfl, h, rfl, rfl, ?_⟩
          show psh ms ((sl.getD i (0, [])).2, false) = psh ms (repB (wat r 0) k.2.1 k.2.2, false)
          rw [h2]
abbrev rmM (X : Rm) (Y : Rs) : Prop := Y.1 = X.1 ∧ kR X.2.1 Y.2.1 Y.2.2.1 ∧ Y.2.2.2.1 = X.2.2.1 ∧ Y.2.2.2.2.1 = X.2.2.2.1 ∧ Y.2.2.2.2.2.1 = X.2.2.2.2.1 ∧ Y.2.2.2.2.2.2.1 = X.2.2.2.2.2.1 ∧ Y.2.2.2.2.2.2.2 = X.2.2.2.2.2.2
theorem rcv_mr {wf : Bool} {ns : List Sf} {kl : List Kt} {sl : List Kn} {old : Nat} {tot run : Int32} {ms : List Mg} {cs : List (Int32 × Int32)} {ps : List Pd} {b : Bool} {l : List Int32} (h : kR kl sl old) (hl : l.length ≤ 210) : rmM (mrF wf ns ms kl tot run cs ps b l) (rcvF wf ns ms sl old tot run cs ps b l) := by
  unfold mrF rcvF
  cases b with
  | true =>
    obtain ⟨h1, h2, h3, h4, h5⟩ := srv_ms (wf := wf) (ns := ns) (tot := tot) (run := run) (ms := ms) h hl
    exact ⟨h1, h2, h3, h4, h5, rfl, rfl⟩
  | false => exact ⟨rfl, h, rfl, rfl, rfl, rfl, rfl⟩
theorem dlv_md {wf : Bool} {ns : List Sf} {kl : List Kt} {sl : List Kn} {old : Nat} {tot run : Int32} {ms : List Mg} {cs : List (Int32 × Int32)} {ps : List Pd} {k : Int32} (h : kR kl sl old) (hl : ∀ g, g ∈ ms → g.1.length ≤ 210) : rmM (mdlF wf ns ms kl tot run cs ps k) (dlvF wf ns ms sl old tot run cs ps k) := by
  unfold mdlF dlvF
  split
  · refine rcv_mr h ?_
    rw [List.getD_eq_getElem?_getD]
    cases e : ms[k.toNatClampNeg]? with
    | none => exact Nat.zero_le _
    | some g => exact hl g (List.mem_of_getElem? e)
  · exact ⟨rfl, h, rfl, rfl, rfl, rfl, rfl⟩
theorem mrB {wf : Bool} {ns : List Sf} {kl : List Kt} {tot run : Int32} {ms : List Mg} {cs : List (Int32 × Int32)} {ps : List Pd} {b : Bool} {l : List Int32} (hm : msB ms) (hp : psB ps) : msB (mrF wf ns ms kl tot run cs ps b l).2.2.2.2.1 ∧ psB (mrF wf ns ms kl tot run cs ps b l).2.2.2.2.2.2 := by
  unfold mrF
  cases b with
  | true => exact ⟨msFB hm, hp⟩
  | false => exact ⟨hm, clB hp⟩
theorem mdB {wf : Bool} {ns : List Sf} {kl : List Kt} {tot run : Int32} {ms : List Mg} {cs : List (Int32 × Int32)} {ps : List Pd} {k : Int32} (hm : msB ms) (hp : psB ps) : msB (mdlF wf ns ms kl tot run cs ps k).2.2.2.2.1 ∧ psB (mdlF wf ns ms kl tot run cs ps k).2.2.2.2.2.2 := by
  unfold mdlF
  split
  · exact mrB (hm.er _) hp
  · exact ⟨hm, hp⟩
