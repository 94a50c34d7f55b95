/-! The abstract layer: a world whose addresses are numbers 1, 2, 3 .. in the order of making (0: the script), one judgement of a method's walk (Tri) and one of a whole call (Con) that hide the machine. -/
-- a cell: an array (type of its elements, length, ints or references), or an object (its class's number, its fields)
abbrev aC : Type := (FieldType × Nat × ((Nat → Int32) ⊕ (Nat → Option Nat))) ⊕ (Nat × List Value)
abbrev aH : Type := Nat → Option aC
-- a method: its name, its code, its locals, what it answers
abbrev aM : Type := MethodName × ByteArray × Nat × Option FieldType
abbrev aQ : Type := Option Value → aH → Prop
def a_ad (b bs : Nat) : Nat → Nat
  | 0 => bs
  | k + 1 => b + k
def a_v (b bs : Nat) : Value → Value
  | .ref k => .ref (a_ad b bs k)
  | v => v
theorem a_cat (b bs : Nat) (v : Value) : (a_v b bs v).category = v.category := by cases v <;> rfl
def a_e (κ : FieldType → ClassId) (b bs : Nat) : aC → va_E
  | .inl (ty, n, .inl f) => .inl (κ ty, n, .inl f)
  | .inl (ty, n, .inr f) => .inl (κ ty, n, .inr (.inr (.inr (.inr (fun j => (f j).map (a_ad b bs))))))
  | .inr (ci, fs) => .inr (ci, fs.map (a_v b bs))
def a_ws (κ : FieldType → ClassId) (b bs n : Nat) (h : aH) : va_W := (List.range n).map (fun k => (b + k, a_e κ b bs ((h (k + 1)).getD (.inr (0, [])))))
theorem a_ws_at {κ : FieldType → ClassId} {b bs n k : Nat} {h : aH} {c : aC} (hk : k < n) (hc : h (k + 1) = some c) : (a_ws κ b bs n h)[k]? = some (b + k, a_e κ b bs c) := by
  simp [a_ws, List.getElem?_map, List.getElem?_range hk, hc]
theorem a_ws_len {κ : FieldType → ClassId} {b bs n : Nat} {h : aH} : (a_ws κ b bs n h).length = n := by simp [a_ws]
theorem a_ws_in {κ : FieldType → ClassId} {b bs n k : Nat} {h : aH} {q : Nat × va_E} (hk : (a_ws κ b bs n h)[k]? = some q) : k < n ∧ q = (b + k, a_e κ b bs ((h (k + 1)).getD (.inr (0, [])))) := by
  have hl : k < n := by
    have := (List.getElem?_eq_some_iff.mp hk).1
    rw [a_ws_len] at this
    exact this
  refine ⟨hl, ?_⟩
  simp only [a_ws, List.getElem?_map, List.getElem?_range hl, Option.map_some, Option.some.injEq] at hk
  exact hk.symm
theorem a_ws_set {κ : FieldType → ClassId} {b bs n k : Nat} {h : aH} {c : aC} (hk : k < n) : (a_ws κ b bs n h).set k (b + k, a_e κ b bs c) = a_ws κ b bs n (va_up h (k + 1) (some c)) := by
  apply List.ext_getElem?
  intro j
  by_cases hj : j = k
  · subst hj
    rw [List.getElem?_set_self (by rw [a_ws_len]; exact hk), a_ws_at hk (va_up_self h (j + 1) (some c))]
  · rw [List.getElem?_set_ne (Ne.symm hj)]
    simp only [a_ws, List.getElem?_map]
    by_cases hl : j < n
    · rw [List.getElem?_range hl]
      simp only [Option.map_some]
      rw [va_up_ne h (some c) (show j + 1 ≠ k + 1 by omega)]
    · rw [List.getElem?_eq_none (by simp; omega)]
      rfl
theorem a_ws_push {κ : FieldType → ClassId} {b bs n : Nat} {h : aH} {c : aC} : a_ws κ b bs n h ++ [(b + n, a_e κ b bs c)] = a_ws κ b bs (n + 1) (va_up h (n + 1) (some c)) := by
  simp only [a_ws, List.range_succ, List.map_append, List.map_cons, List.map_nil, va_up_self, Option.getD_some]
  congr 1
  apply List.map_congr_left
  intro k hk
  have hk : k < n := List.mem_range.mp hk
  rw [va_up_ne h (some c) (show k + 1 ≠ n + 1 by omega)]
theorem a_D {κ : FieldType → ClassId} {b bs n : Nat} {h : aH} : va_D (fun q => b ≤ q) (a_ws κ b bs n h) := by
  refine ⟨fun i j x y hi hj hxy => ?_, fun k q hk => ?_⟩
  · rw [(a_ws_in hi).2, (a_ws_in hj).2] at hxy
    have hxy : b + i = b + j := hxy
    omega
  · rw [(a_ws_in hk).2]
    exact Nat.le_add_right b k
-- the three kinds of arrays
abbrev a_tB : FieldType := .object "OnceWire$Bytes"
abbrev a_ty (κ : FieldType → ClassId) : List (ClassId × FieldType) := [(κ .int, .int), (κ .boolean, .boolean), (κ a_tB, a_tB)]
/-- the heap holds the world h of n cells -/
def a_R (κ : FieldType → ClassId) (D : va_G) (b bs n : Nat) (h : aH) (H : Heap) : Prop := (∀ k : Nat, (h (k + 1)).isSome = true ↔ k < n) ∧ va_P D classes (a_ws κ b bs n h) H
/-- the script, where there is one -/
def a_X (bs : Nat) (X0 : Option aC) (U : State) : Prop := X0 = none ∨ ∃ (L : Nat) (xs : Nat → Int32), X0 = some (.inl (.int, L, .inl xs)) ∧ va_X bs L xs U U.heap
def a_B (κ : FieldType → ClassId) (D : va_G) (b bs n : Nat) (h : aH) (U : State) : Prop := U.heap.size = b + n ∧ a_R κ D b bs n h U.heap ∧ va_K D classes (a_ty κ) U ∧ bs < b ∧ a_X bs (h 0) U ∧ ∀ w ∈ nws, va_Nw w U
def a_Q (κ : FieldType → ClassId) (D : va_G) (b bs mc : Nat) (X0 : Option aC) (Q : aQ) : Array Value → State → Outcome → State → Prop := fun _ st oc t => (∃ (r : Option Value) (n : Nat) (h : aH), Q r h ∧ h 0 = X0 ∧ st.heap.size + mc = b + n ∧ oc = .returned (r.map (a_v b bs)) ∧ a_R κ D b bs n h t.heap) ∧ va_F (fun q => b ≤ q) st t
def a_rm (d mc ms : Nat) : Room := { frames := d, cells := mc, slots := ms, locals := 30 * d }
abbrev a_w (μ : aM) : List Cond := Cond.code μ.1 μ.2.1 μ.2.2.1 μ.2.2.2 :: Ws
/-- a call of μ with these arguments in the world h of n cells ends, and its answer and the world behind it are as Q says; d: frames that it nests; mc, ms: cells and slots that it makes -/
def Con (μ : aM) (d mc ms n : Nat) (as : List Value) (h : aH) (Q : aQ) : Prop := ∀ (l : Launch) (κ : FieldType → ClassId) (D : va_G) (b bs : Nat), Met l μ.1 (a_w μ) (a_rm d mc ms) (va_Pc (as.map (a_v b bs)) (a_B κ D b bs n h)) (a_Q κ D b bs mc (h 0) Q) mc ms (fun q => b ≤ q)
def a_Cx (μ : aM) (p : Program) (s : State) (m : MethodId) (args : Array Value) (meth : Method) (c : Code) (κ : FieldType → ClassId) (D : va_G) (b bs : Nat) (X0 : Option aC) : Prop :=
  p.tables.exec = Jvm.exec ∧ c.code = μ.2.1 ∧ c.maxLocals = μ.2.2.1 ∧ meth.sig.returnType = μ.2.2.2 ∧ meth.locks = false ∧ (∀ w ∈ Ws, w.before args s = true) ∧ s.vm.findClass μ.1.cls = some m.cls ∧ (μ.1.name = "<init>" → meth.name = "<init>") ∧ va_K D classes (a_ty κ) s ∧ (∀ w ∈ nws, va_Nw w s) ∧ bs < b ∧ b ≤ s.heap.size ∧ a_X bs X0 s
def a_St (κ : FieldType → ClassId) (D : va_G) (b bs : Nat) (X0 : Option aC) (s : State) (n : Nat) (h : aH) (cells : Nat) (H : Heap) (locs : List Loc) : Prop := h 0 = X0 ∧ s.heap.size + cells = b + n ∧ a_R κ D b bs n h H ∧ va_S (fun q => b ≤ q) s.heap H locs
def a_L (b bs : Nat) (L : List (Nat × Value)) : List (Nat × Value) := L.map (fun q => (q.1, a_v b bs q.2))
abbrev aZ : Type := List Frame → Array Value → State → (FieldType → ClassId) → va_G → Nat → Nat → Option aC → State → Prop
/-- a method's end -/
def a_Z (mc ms : Nat) (Q : aQ) : aZ := fun below args s κ D b bs X0 => MQ below (a_Q κ D b bs mc X0 Q) args s mc ms (fun q => b ≤ q)
/-- a method's walk: from pc, with locals L and operands S (top first), in the world h of n cells, cells and slots made so far: it comes to an end as Z says -/
def Tri (μ : aM) (R : Room) (Z : aZ) (pc : Nat) (L : List (Nat × Value)) (S : List Value) (n : Nat) (h : aH) (cells slots : Nat) : Prop :=
  ∀ (p : Program) (l : Launch) (e : Env) (s : State) (m : MethodId) (args : Array Value) (below : List Frame) (meth : Method) (c : Code) (κ : FieldType → ClassId) (D : va_G) (b bs : Nat) (X0 : Option aC) (H : Heap) (locs : List Loc) (ls : Array Slot),
    a_Cx μ p s m args meth c κ D b bs X0 → a_St κ D b bs X0 s n h cells H locs → lv_has ls μ.2.2.1 (a_L b bs L) →
    W p l e R s m args below meth c H locs cells slots (Z below args s κ D b bs X0) (F0 m pc ls (S.map (a_v b bs)))
-- entry
theorem a_args (b bs : Nat) : ∀ (as : List Value) (i : Nat), lv_args i (as.map (a_v b bs)) = a_L b bs (lv_args i as)
  | [], _ => rfl
  | v :: t, i => by
    simp only [List.map_cons, lv_args, a_L, a_cat]
    rw [a_args b bs t]
    rfl
theorem a_sl (b bs : Nat) : ∀ as : List Value, (lg_sl (as.map (a_v b bs))).length = (lg_sl as).length
  | [] => rfl
  | v :: t => by
    have ih := a_sl b bs t
    simp only [lg_sl, List.map_cons, List.flatMap_cons, List.length_append, a_cat] at ih ⊢
    rw [ih]
    by_cases hc : v.category = 2 <;> simp [hc]
theorem Con.of {μ : aM} {d mc ms n : Nat} {as : List Value} {h : aH} {Q : aQ} (hy : plainName μ.1.cls = true) (hn : (lg_sl as).length ≤ μ.2.2.1) (k : Tri μ (a_rm d mc ms) (a_Z mc ms Q) 0 (lv_args 0 as) [] n h 0 0) : Con μ d mc ms n as h Q := by
  intro l κ D b bs
  refine Met.ofW (cc := μ.2.1) (maxL := μ.2.2.1) (ret := μ.2.2.2) hy rfl ?_
  intro p e s m args below meth c s₁ B hml hv
  obtain ⟨rfl, hz, hR, hK, hbs, hX, hN⟩ := hv
  have hts := atoms_spec (ws := a_w μ) B.pre
  rw [lg_entry_eq]
  refine k p l e s m _ below meth c κ D b bs (h 0) s.heap [] _ ⟨B.exec, B.bytes, hml, B.returns, B.notSynchronized, fun w hw => hts w (List.mem_cons_of_mem _ hw), findClass_of_methodNamed B.named, fun q => (name_of_methodNamed B.named B.method).1.trans q, hK, hN, hbs, by rw [hz]; exact Nat.le_add_right b n, hX⟩ ⟨rfl, hz, hR, va_S.rf⟩ ?_
  rw [← a_args]
  exact lv_entry (as.map (a_v b bs)) (n := μ.2.2.1) (by rw [a_sl]; exact hn)
-- locals
def a_lk (i : Nat) : List (Nat × Value) → Option Value
  | [] => none
  | q :: t => match Nat.beq i q.1 with
    | true => some q.2
    | false => a_lk i t
theorem a_lk_mem {i : Nat} {v : Value} : ∀ {L : List (Nat × Value)}, a_lk i L = some v → (i, v) ∈ L
  | [], h => by cases h
  | q :: t, h => by
    unfold a_lk at h
    split at h
    · rename_i hb
      have e : i = q.1 := Nat.eq_of_beq_eq_true hb
      cases h
      rw [e]
      exact List.mem_cons_self
    · exact List.mem_cons_of_mem _ (a_lk_mem h)
theorem a_at {b bs nL i : Nat} {ls : Array Slot} {L : List (Nat × Value)} {v : Value} (V : lv_has ls nL (a_L b bs L)) (hl : a_lk i L = some v) : ls[i]? = some (.val (a_v b bs v)) :=
  V.2.2 (i, a_v b bs v) (List.mem_map.mpr ⟨(i, v), a_lk_mem hl, rfl⟩)
def a_s1 (i : Nat) (v : Value) (L : List (Nat × Value)) : List (Nat × Value) := (i, v) :: L.filter (fun q => !(q.1 == i) && !(q.1 + 1 == i && q.2.category == 2))
def a_s2 (i : Nat) (v : Value) (L : List (Nat × Value)) : List (Nat × Value) := (i, v) :: L.filter (fun q => !(q.1 == i) && (!(q.1 == i + 1) && !(q.1 + 1 == i && q.2.category == 2)))
theorem a_s1_L (b bs i : Nat) (v : Value) (L : List (Nat × Value)) : (i, a_v b bs v) :: (a_L b bs L).filter (fun q => !(q.1 == i) && !(q.1 + 1 == i && q.2.category == 2)) = a_L b bs (a_s1 i v L) := by
  simp only [a_L, a_s1, List.map_cons, List.filter_map, Function.comp_def, a_cat]
theorem a_s2_L (b bs i : Nat) (v : Value) (L : List (Nat × Value)) : (i, a_v b bs v) :: (a_L b bs L).filter (fun q => !(q.1 == i) && (!(q.1 == i + 1) && !(q.1 + 1 == i && q.2.category == 2))) = a_L b bs (a_s2 i v L) := by
  simp only [a_L, a_s2, List.map_cons, List.filter_map, Function.comp_def, a_cat]
theorem a_sum (b bs : Nat) (S : List Value) : ((S.map (a_v b bs)).map fun v => v.category).sum = (S.map fun v => v.category).sum := by
  rw [List.map_map]
  congr 1
  apply List.map_congr_left
  intro v _
  exact a_cat b bs v
-- the world, cell by cell
theorem a_pos {κ : FieldType → ClassId} {D : va_G} {b bs n a cells : Nat} {X0 : Option aC} {s : State} {h : aH} {H : Heap} {locs : List Loc} {c : aC} (hX : a_X bs X0 s) (T : a_St κ D b bs X0 s n h cells H locs) (ha : h a = some c) (hc : ∀ (L : Nat) (xs : Nat → Int32), c ≠ .inl (.int, L, .inl xs)) : ∃ k, a = k + 1 ∧ k < n ∧ (a_ws κ b bs n h)[k]? = some (b + k, a_e κ b bs c) := by
  cases a with
  | zero =>
    rw [T.1] at ha
    rcases hX with hX | ⟨L, xs, hX, -⟩
    · rw [hX] at ha
      cases ha
    · rw [hX] at ha
      exact absurd (Option.some.inj ha).symm (hc L xs)
  | succ k =>
    have hk : k < n := (T.2.2.1.1 k).mp (by rw [ha]; rfl)
    exact ⟨k, rfl, hk, a_ws_at hk ha⟩
theorem a_pos' {κ : FieldType → ClassId} {D : va_G} {b bs n a cells : Nat} {X0 : Option aC} {s : State} {h : aH} {H : Heap} {locs : List Loc} {c : aC} (T : a_St κ D b bs X0 s n h cells H locs) (ha : h a = some c) (h0 : a ≠ 0) : ∃ k, a = k + 1 ∧ k < n ∧ (a_ws κ b bs n h)[k]? = some (b + k, a_e κ b bs c) := by
  cases a with
  | zero => exact absurd rfl h0
  | succ k =>
    have hk : k < n := (T.2.2.1.1 k).mp (by rw [ha]; rfl)
    exact ⟨k, rfl, hk, a_ws_at hk ha⟩
/-- a cell of the world is written -/
theorem a_St.put {κ : FieldType → ClassId} {D : va_G} {b bs n k cells : Nat} {X0 : Option aC} {s : State} {h : aH} {H H1 : Heap} {locs locs1 : List Loc} {c : aC} {E : va_E} (T : a_St κ D b bs X0 s n h cells H locs) (hk : k < n) (he : E = a_e κ b bs c) (hP : va_P D classes ((a_ws κ b bs n h).set k (b + k, E)) H1) (hS : va_S (fun q => b ≤ q) s.heap H1 locs1) : a_St κ D b bs X0 s n (va_up h (k + 1) (some c)) cells H1 locs1 := by
  obtain ⟨t1, t2, ⟨t3, t4⟩, t5⟩ := T
  subst he
  rw [a_ws_set hk] at hP
  refine ⟨?_, t2, ⟨fun j => ?_, hP⟩, hS⟩
  · rw [va_up_ne h (some c) (show 0 ≠ k + 1 by omega)]
    exact t1
  · by_cases hj : j = k
    · subst hj
      rw [va_up_self]
      exact ⟨fun _ => hk, fun _ => rfl⟩
    · rw [va_up_ne h (some c) (show j + 1 ≠ k + 1 by omega)]
      exact t3 j
/-- a cell is made -/
theorem a_St.push {κ : FieldType → ClassId} {D : va_G} {b bs n cells : Nat} {X0 : Option aC} {s : State} {h : aH} {H H1 : Heap} {locs : List Loc} {c : aC} (T : a_St κ D b bs X0 s n h cells H locs) (hz : H.size = b + n) (hc : va_at D classes (b + n, a_e κ b bs c) H1) (z1 : H1.size = H.size + 1) (o1 : ∀ q : Nat, q < H.size → H1[q]? = H[q]?) : a_St κ D b bs X0 s (n + 1) (va_up h (n + 1) (some c)) (cells + 1) H1 locs := by
  obtain ⟨t1, t2, ⟨t3, t4⟩, t5⟩ := T
  refine ⟨?_, by omega, ⟨fun j => ?_, ?_⟩, ⟨by have := t5.1; omega, fun q h1 h2 => (o1 q (Nat.lt_of_lt_of_le h1 t5.1)).trans (t5.2.1 q h1 h2), t5.2.2⟩⟩
  · rw [va_up_ne h (some c) (show 0 ≠ n + 1 by omega)]
    exact t1
  · by_cases hj : j = n
    · subst hj
      rw [va_up_self]
      exact ⟨fun _ => Nat.lt_succ_self j, fun _ => rfl⟩
    · rw [va_up_ne h (some c) (show j + 1 ≠ n + 1 by omega), t3 j]
      omega
  · rw [← a_ws_push]
    refine va_P.app (t4.kept fun k x hx => o1 x.1 ((t4 k x hx).lt)) (fun k x hx => ?_)
    have hk : k < 1 := (List.getElem?_eq_some_iff.mp hx).1
    rw [show k = 0 by omega] at hx
    cases hx
    exact hc
theorem a_low {κ : FieldType → ClassId} {D : va_G} {b bs n cells : Nat} {X0 : Option aC} {s : State} {h : aH} {H : Heap} {locs : List Loc} (hb : b ≤ s.heap.size) (T : a_St κ D b bs X0 s n h cells H locs) : b + n ≤ H.size := by
  obtain ⟨t1, t2, ⟨t3, t4⟩, t5⟩ := T
  cases n with
  | zero => have := t5.1; omega
  | succ n =>
    cases hc : h (n + 1) with
    | none =>
      have := (t3 n).mpr (Nat.lt_succ_self n)
      rw [hc] at this
      cases this
    | some c =>
      have hl := (t4 n _ (a_ws_at (Nat.lt_succ_self n) hc)).lt
      have hl : b + n < H.size := hl
      omega
section Ab
variable {p : Program} {l : Launch} {e : Env} {R : Room} {s : State} {m : MethodId} {args : Array Value} {below : List Frame} {meth : Method} {c : Code} {H : Heap} {locs : List Loc} {cells slots : Nat} {Qw : State → Prop}
variable {κ : FieldType → ClassId} {D : va_G} {b bs n : Nat} {X0 : Option aC} {h : aH} {μ : aM}
/-- the heap's size is what was made -/
theorem a_size {g : JFrame} (hb : b ≤ s.heap.size) (T : a_St κ D b bs X0 s n h cells H locs) (kk : H.size = b + n → W p l e R s m args below meth c H locs cells slots Qw g) : W p l e R s m args below meth c H locs cells slots Qw g := by
  intro T1 hT X
  have h1 := X.heapSize
  have h2 := a_low hb T
  have h3 := T.2.1
  rw [hT] at h1
  exact kk (by omega) T1 hT X
end Ab
-- words that a nest mate's members need: they are warmed one by one
def a_nk : Cond → Bool
  | .fieldLinkNest _ _ _ _ _ _ => true
  | .methodLinkNest _ _ _ _ => true
  | .declares _ => true
  | .arrayOver (.object _) => true
  | _ => false
theorem a_nk_warm {w : Cond} {s U : State} (hk : a_nk w = true) (hW : s.WarmedH U.vm) (hZ : va_Nw w s) : va_Nw w U := by
  cases w with
  | fieldLinkNest => exact va_Nw.warmF hW hZ
  | methodLinkNest => exact va_Nw.warmM hW hZ
  | declares => exact va_Nw.warmD hW hZ
  | arrayOver ty =>
    cases ty with
    | object C => exact va_AO.moved hW.alike hZ
    | _ => cases hk
  | _ => cases hk
theorem a_nk_same {w : Cond} {u U : State} (hk : a_nk w = true) (h : u.vm = U.vm) (hZ : va_Nw w u) : va_Nw w U := by
  cases w with
  | fieldLinkNest => exact va_Nw.same rfl h hZ
  | methodLinkNest => exact va_Nw.same rfl h hZ
  | declares => exact va_Nw.same rfl h hZ
  | arrayOver ty =>
    cases ty with
    | object C => exact va_AO.moved (by rw [h]; exact Vm.Alike.refl _) hZ
    | _ => cases hk
  | _ => cases hk
theorem a_nws : ∀ w ∈ nws, a_nk w = true := List.all_eq_true.mp (by decide +kernel)
theorem a_good : ∀ w ∈ Ws, goodWord w = true := List.all_eq_true.mp (by decide +kernel)
theorem a_goodIn {μ' : aM} (hc : Cond.code μ'.1 μ'.2.1 μ'.2.2.1 μ'.2.2.2 ∈ Ws) : GoodIn Ws (a_w μ') := by
  intro w hw
  have h1 : w ∈ Ws := by
    rcases List.mem_cons.mp hw with e | h
    · rw [e]; exact hc
    · exact h
  exact ⟨h1, good_of_word (a_good w h1)⟩
theorem a_blind {κ : FieldType → ClassId} {D : va_G} {b bs n : Nat} {h : aH} {av : List Value} : FrameBlind (va_Pc av (a_B κ D b bs n h)) := by
  intro a U g mk q
  obtain ⟨q0, q1, q2, q3, q4, q5, q6⟩ := q
  refine ⟨q0, q1, q2, va_K.moved (u := U) (U := U.calling g mk a) (Vm.Alike.refl U.vm) q3, q4, ?_, fun w hw => a_nk_same (u := U) (a_nws w hw) rfl (q6 w hw)⟩
  rcases q5 with q | ⟨L, xs, q, r⟩
  · exact Or.inl q
  · exact Or.inr ⟨L, xs, q, va_X.moved (u := U) (U := U.calling g mk a) (Vm.Alike.refl U.vm) r⟩
theorem a_pre {μ : aM} {p : Program} {s : State} {m : MethodId} {args : Array Value} {meth : Method} {c : Code} {κ : FieldType → ClassId} {D : va_G} {b bs n cells : Nat} {X0 : Option aC} {h : aH} {H : Heap} {locs : List Loc} (C : a_Cx μ p s m args meth c κ D b bs X0) (T : a_St κ D b bs X0 s n h cells H locs) (hz : H.size = b + n) {U : State} (hU : U.heap = H) (hW : s.WarmedH U.vm) : a_B κ D b bs n h U := by
  obtain ⟨-, -, -, -, -, -, -, -, hK, hN, hbs, hb, hX⟩ := C
  obtain ⟨t1, t2, t3, t5⟩ := T
  refine ⟨by rw [hU]; exact hz, by rw [hU]; exact t3, va_K.moved hW.alike hK, hbs, ?_, fun w hw => a_nk_warm (a_nws w hw) hW (hN w hw)⟩
  rw [t1]
  rcases hX with q | ⟨L, xs, q, r⟩
  · exact Or.inl q
  · refine Or.inr ⟨L, xs, q, (va_X.moved hW.alike r).kept ?_⟩
    rw [hU]
    exact t5.2.1 bs (Nat.lt_of_lt_of_le hbs hb) (Nat.not_le.mpr hbs)
