/-! OnceWireModel: the calls that wait, and accept. -/
theorem nd_sub : ∀ (l1 l2 : List Nat), l1.Nodup → (∀ x, x ∈ l1 → x ∈ l2) → l1.length ≤ l2.length
  | [], l2, _, _ => Nat.zero_le _
  | x :: t, l2, hn, hs => by
    have h1 := List.nodup_cons.mp hn
    have hx := hs x List.mem_cons_self
    have h2 := nd_sub t (l2.erase x) h1.2 (fun y hy => by
      have hne : y ≠ x := fun z => h1.1 (z ▸ hy)
      exact (List.mem_erase_of_ne hne).mpr (hs y (List.mem_cons_of_mem _ hy)))
    rw [List.length_erase_of_mem hx] at h2
    have : 0 < l2.length := List.length_pos_of_mem hx
    simp
    omega
def pnd : List (Int32 × Int32) → Nat → List Nat
  | [], _ => []
  | c :: t, i => if c.1 = 3 then i :: pnd t (i + 1) else pnd t (i + 1)
theorem pnd_mem (j : Nat) : ∀ (cs : List (Int32 × Int32)) (i : Nat), j ∈ pnd cs i ↔ i ≤ j ∧ ∃ c, cs[j - i]? = some c ∧ c.1 = 3
  | [], i => by
    constructor
    · intro h
      cases h
    · rintro ⟨_, c, h, _⟩
      cases h
  | a :: t, i => by
    rw [pnd]
    have ih := pnd_mem j t (i + 1)
    constructor
    · intro h
      by_cases e : a.1 = 3
      · rw [if_pos e] at h
        rcases List.mem_cons.mp h with z | z
        · subst z
          exact ⟨Nat.le_refl _, a, by simp, e⟩
        · obtain ⟨h1, c, h2, h3⟩ := ih.mp z
          refine ⟨by omega, c, ?_, h3⟩
          rw [show j - i = (j - (i + 1)) + 1 by omega]
          simpa using h2
      · rw [if_neg e] at h
        obtain ⟨h1, c, h2, h3⟩ := ih.mp h
        refine ⟨by omega, c, ?_, h3⟩
        rw [show j - i = (j - (i + 1)) + 1 by omega]
        simpa using h2
    · rintro ⟨h1, c, h2, h3⟩
      rcases Nat.eq_or_lt_of_le h1 with z | z
      · subst z
        rw [Nat.sub_self] at h2
        have hc : a = c := by simpa using h2
        rw [if_pos (by rw [hc]; exact h3)]
        exact List.mem_cons_self
      · have h4 : j ∈ pnd t (i + 1) := ih.mpr ⟨z, c, by rw [show j - i = (j - (i + 1)) + 1 by omega] at h2; simpa using h2, h3⟩
        split
        · exact List.mem_cons_of_mem _ h4
        · exact h4
theorem pnd_nd : ∀ (cs : List (Int32 × Int32)) (i : Nat), (pnd cs i).Nodup
  | [], i => List.nodup_nil
  | a :: t, i => by
    rw [pnd]
    split
    · refine List.nodup_cons.mpr ⟨fun z => ?_, pnd_nd t (i + 1)⟩
      have := ((pnd_mem i t (i + 1)).mp z).1
      omega
    · exact pnd_nd t (i + 1)
theorem pnd_set (d : Int32 × Int32) (hd : d.1 ≠ 3) : ∀ (cs : List (Int32 × Int32)) (i k j : Nat), (pnd cs i)[k]? = some j → pnd (cs.set (j - i) d) i = (pnd cs i).eraseIdx k
  | [], i, k, j, h => by cases h
  | a :: t, i, k, j, h => by
    have hj : i ≤ j := ((pnd_mem j (a :: t) i).mp (List.mem_of_getElem? h)).1
    rw [pnd] at h ⊢
    by_cases e : a.1 = 3
    · rw [if_pos e] at h ⊢
      cases k with
      | zero =>
        have : i = j := by simpa using h
        subst this
        rw [Nat.sub_self, List.set_cons_zero, pnd, if_neg hd, List.eraseIdx_cons_zero]
      | succ k =>
        rw [List.getElem?_cons_succ] at h
        have hj2 : i + 1 ≤ j := ((pnd_mem j t (i + 1)).mp (List.mem_of_getElem? h)).1
        rw [show j - i = (j - (i + 1)) + 1 by omega, List.set_cons_succ, pnd, if_pos e, List.eraseIdx_cons_succ, pnd_set d hd t (i + 1) k j h]
    · rw [if_neg e] at h ⊢
      have hj2 : i + 1 ≤ j := ((pnd_mem j t (i + 1)).mp (List.mem_of_getElem? h)).1
      rw [show j - i = (j - (i + 1)) + 1 by omega, List.set_cons_succ, pnd, if_neg e, pnd_set d hd t (i + 1) k j h]
theorem pnd_app : ∀ (cs : List (Int32 × Int32)) (i : Nat) (r : Int32), pnd (cs ++ [(3, r)]) i = pnd cs i ++ [i + cs.length]
  | [], i, r => by
    show pnd [(3, r)] i = [i]
    rw [pnd, if_pos rfl]
    rfl
  | a :: t, i, r => by
    rw [List.cons_append, pnd, pnd, pnd_app t (i + 1) r]
    have e : i + 1 + t.length = i + (a :: t).length := by simp; omega
    rw [e]
    split <;> rfl
def mPd (α : Nat → Nat → Int32) (cs : List (Int32 × Int32)) (ps : List Pd) (sl : List Nat) : Prop := ps.map (fun m => m.1) = (pnd cs 0).map nI ∧ (sl.length = ps.length ∧ sl.Nodup ∧ (∀ s, s ∈ sl → s < 8)) ∧ (∀ s, s < 8 → s ∉ sl → α 20 s = -1) ∧ ∀ (i : Nat) (g : Pd) (s : Nat), ps[i]? = some g → sl[i]? = some s → α 20 s = g.1 ∧ α 19 s = nI g.2.2.length ∧ g.2.2.length ≤ 160 ∧ Rw (α 18) (160 * s) g.2.2 ∧ (∃ a : Nat, a ≤ 2 ∧ g.2.1 = nI a) ∧ α 17 g.1.toNatClampNeg = g.2.1
theorem mPd.same {α α' : Nat → Nat → Int32} {cs : List (Int32 × Int32)} {ps : List Pd} {sl : List Nat} (h : mPd α cs ps sl) (e1 : α' 17 = α 17) (e2 : α' 18 = α 18) (e3 : α' 19 = α 19) (e4 : α' 20 = α 20) : mPd α' cs ps sl := by
  unfold mPd at h ⊢
  rw [e1, e2, e3, e4]
  exact h
theorem ppF_none (x : Int32) : ∀ (ps : List Pd) (i : Nat), (∀ m, m ∈ ps → m.1 ≠ x) → ppF x ps i = none
  | [], _, _ => rfl
  | m :: t, i, h => by
    rw [ppF, if_neg (h m List.mem_cons_self)]
    exact ppF_none x t (i + 1) (fun y hy => h y (List.mem_cons_of_mem _ hy))
theorem ppF_ex (x : Int32) : ∀ (ps : List Pd) (i : Nat), ppF x ps i = none → ∀ m, m ∈ ps → m.1 ≠ x
  | [], _, _, m, hm => by cases hm
  | a :: t, i, h, m, hm => by
    rw [ppF] at h
    by_cases e : a.1 = x
    · rw [if_pos e] at h
      cases h
    · rw [if_neg e] at h
      rcases List.mem_cons.mp hm with z | z
      · rw [z]
        exact e
      · exact ppF_ex x t (i + 1) h m z
theorem mPd.at {α : Nat → Nat → Int32} {cs : List (Int32 × Int32)} {ps : List Pd} {sl : List Nat} (h : mPd α cs ps sl) (h100 : cs.length ≤ 100) {k : Nat} {g : Pd} (hg : ps[k]? = some g) : ∃ j c, j < cs.length ∧ (pnd cs 0)[k]? = some j ∧ g.1 = nI j ∧ cs[j]? = some c ∧ c.1 = 3 := by
  have h1 : (ps.map (fun m => m.1))[k]? = some g.1 := by rw [List.getElem?_map, hg]; rfl
  rw [h.1, List.getElem?_map] at h1
  obtain ⟨j, hj, e⟩ := Option.map_eq_some_iff.mp h1
  obtain ⟨_, c, hc, h3⟩ := (pnd_mem j cs 0).mp (List.mem_of_getElem? hj)
  rw [Nat.sub_zero] at hc
  exact ⟨j, c, (List.getElem?_eq_some_iff.mp hc).1, hj, e.symm, hc, h3⟩
theorem mPd.pos {α : Nat → Nat → Int32} {cs : List (Int32 × Int32)} {ps : List Pd} {sl : List Nat} (h : mPd α cs ps sl) (h100 : cs.length ≤ 100) {j : Nat} {c : Int32 × Int32} (hc : cs[j]? = some c) (h3 : c.1 = 3) : ∃ k g, ppF (nI j) ps 0 = some k ∧ ps[k]? = some g ∧ g.1 = nI j ∧ (pnd cs 0)[k]? = some j := by
  have hj : j ∈ pnd cs 0 := (pnd_mem j cs 0).mpr ⟨Nat.zero_le _, c, hc, h3⟩
  have hj2 := (List.getElem?_eq_some_iff.mp hc).1
  cases hp : ppF (nI j) ps 0 with
  | none =>
    have h1 : nI j ∈ ps.map (fun m => m.1) := by rw [h.1]; exact List.mem_map.mpr ⟨j, hj, rfl⟩
    obtain ⟨g, hg, e⟩ := List.mem_map.mp h1
    exact absurd e (ppF_ex (nI j) ps 0 hp g hg)
  | some k =>
    obtain ⟨_, g, hg, e⟩ := ppF_get (nI j) ps 0 k hp
    rw [Nat.sub_zero] at hg
    obtain ⟨j', c', hj', hp', e', _⟩ := h.at h100 hg
    have : j' = j := (nI_eq (by omega) (by omega)).mp (e'.symm.trans e)
    subst this
    exact ⟨k, g, rfl, hg, e, hp'⟩
theorem mPd.no {α : Nat → Nat → Int32} {cs : List (Int32 × Int32)} {ps : List Pd} {sl : List Nat} (h : mPd α cs ps sl) (h100 : cs.length ≤ 100) {x : Int32} (hx : ∀ j c, x = nI j → cs[j]? = some c → c.1 ≠ 3) : ppF x ps 0 = none := by
  refine ppF_none x ps 0 (fun g hg e => ?_)
  obtain ⟨k, hk⟩ := List.mem_iff_getElem?.mp hg
  obtain ⟨j, c, hj, hp, e', hc, h3⟩ := h.at h100 hk
  exact hx j c (e.symm.trans e') hc h3
theorem er_map {β γ : Type} (f : β → γ) : ∀ (l : List β) (k : Nat), (l.eraseIdx k).map f = (l.map f).eraseIdx k
  | [], k => rfl
  | a :: t, 0 => rfl
  | a :: t, k + 1 => by
    rw [List.eraseIdx_cons_succ, List.map_cons, List.map_cons, List.eraseIdx_cons_succ, er_map f t k]
theorem nd_erase {sl : List Nat} (hn : sl.Nodup) {k s : Nat} (hs : sl[k]? = some s) (q : Nat) : q ∈ sl.eraseIdx k ↔ q ∈ sl ∧ q ≠ s := by
  constructor
  · intro hq
    refine ⟨List.mem_of_mem_eraseIdx hq, fun z => ?_⟩
    subst z
    obtain ⟨i, hi⟩ := List.mem_iff_getElem?.mp hq
    rw [List.getElem?_eraseIdx] at hi
    split at hi
    · exact absurd hi (fun z => nodup_ne hn z hs (by omega) rfl)
    · exact absurd hi (fun z => nodup_ne hn z hs (by omega) rfl)
  · rintro ⟨hq, hne⟩
    obtain ⟨i, hi⟩ := List.mem_iff_getElem?.mp hq
    have hik : i ≠ k := fun z => by
      subst z
      rw [hs] at hi
      exact hne (Option.some.inj hi).symm
    rcases Nat.lt_or_ge i k with z | z
    · exact List.mem_of_getElem? (i := i) (by rw [List.getElem?_eraseIdx, if_pos z]; exact hi)
    · exact List.mem_of_getElem? (i := i - 1) (by rw [List.getElem?_eraseIdx, if_neg (by omega), show i - 1 + 1 = i by omega]; exact hi)
theorem mPd.take {α α' : Nat → Nat → Int32} {cs : List (Int32 × Int32)} {ps : List Pd} {sl : List Nat} (h : mPd α cs ps sl) (h100 : cs.length ≤ 100) {k j : Nat} {g : Pd} (hg : ps[k]? = some g) (hp : (pnd cs 0)[k]? = some j) {d : Int32 × Int32} (hd : d.1 ≠ 3) (e1 : α' 17 = α 17) (e2 : α' 18 = α 18) (e3 : α' 19 = α 19) (e4 : ∀ q, α' 20 q = if q < 8 ∧ α 20 q = g.1 then -1 else α 20 q) : mPd α' (cs.set j d) (ps.eraseIdx k) (sl.eraseIdx k) := by
  obtain ⟨a1, ⟨b1, b2, b3⟩, c1, d1⟩ := id h
  have hk : k < ps.length := (List.getElem?_eq_some_iff.mp hg).1
  obtain ⟨s, hs⟩ : ∃ s, sl[k]? = some s := ⟨_, List.getElem?_eq_getElem (by omega)⟩
  have uni : ∀ (i : Nat) (g' : Pd) (s' : Nat), ps[i]? = some g' → sl[i]? = some s' → g'.1 = g.1 → i = k := fun i g' s' z1 z2 z3 => by
    obtain ⟨j1, c1', hj1, hp1, e1', _⟩ := h.at h100 z1
    obtain ⟨j2, c2', hj2, hp2, e2', _⟩ := h.at h100 hg
    have : j1 = j2 := (nI_eq (by omega) (by omega)).mp (by rw [← e1', ← e2', z3])
    subst this
    by_cases e : i = k
    · exact e
    · exact absurd rfl (nodup_ne (pnd_nd cs 0) hp1 hp2 e)
  refine ⟨?_, ⟨?_, List.Nodup.sublist (List.eraseIdx_sublist _ _) b2, fun q hq => b3 q (List.mem_of_mem_eraseIdx hq)⟩, fun q hq hq2 => ?_, fun i g' s' hg' hs' => ?_⟩
  · have := pnd_set d hd cs 0 k j hp
    rw [Nat.sub_zero] at this
    rw [this, er_map, er_map, a1]
  · rw [List.length_eraseIdx, List.length_eraseIdx, b1]
  · rw [e4]
    by_cases z : q ∈ sl
    · have : q = s := by
        by_cases e : q = s
        · exact e
        · exact absurd ((nd_erase b2 hs q).mpr ⟨z, e⟩) hq2
      subst this
      rw [if_pos ⟨hq, (d1 k g q hg hs).1⟩]
    · split
      · rfl
      · exact c1 q hq z
  · have key : ∃ i0, i0 ≠ k ∧ ps[i0]? = some g' ∧ sl[i0]? = some s' := by
      rw [List.getElem?_eraseIdx] at hg' hs'
      split at hg'
      · rename_i z
        rw [if_pos z] at hs'
        exact ⟨i, by omega, hg', hs'⟩
      · rename_i z
        rw [if_neg z] at hs'
        exact ⟨i + 1, by omega, hg', hs'⟩
    obtain ⟨i0, n0, h1, h2⟩ := key
    obtain ⟨z1, z2, z3, z4, z5, z6⟩ := d1 i0 g' s' h1 h2
    have hne : α 20 s' ≠ g.1 := fun z => n0 (uni i0 g' s' h1 h2 (z1.symm.trans z))
    refine ⟨?_, by rw [e3]; exact z2, z3, by rw [e2]; exact z4, z5, by rw [e1]; exact z6⟩
    rw [e4, if_neg (fun z => hne z.2)]
    exact z1
