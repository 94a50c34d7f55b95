/-! Rows of the abstract layer that read and write the world, make cells, end a method. -/
/-- own's pool entry idx is field k of class number ci, of type ty, final or not -/
def a_F (own : String) (idx ci k : Nat) (fin : Bool) (ty : FieldType) : Prop :=
  ∃ (C : String) (T : u_T) (N : Nat) (ref : String) (t0 : Nat → FieldType), classes[ci]? = some (C, T, N) ∧ (∀ w ∈ u_ws C T N, w ∈ Ws) ∧ k < N ∧ (∀ j, j < N → parseFieldDescriptor (T j).2.2.1 = some (t0 j)) ∧ (∀ a, a < N → ∀ b, b < N → a ≠ b → (T a).2.1 ≠ (T b).2.1) ∧ t0 k = ty ∧ (T k).2.2.2 = fin ∧
    (ref = (T k).1 ∨ Cond.sameField ref (T k).1 (T k).2.1 (T k).2.2.1 ∈ Ws) ∧ (Cond.fieldLink own idx ref (T k).2.1 (T k).2.2.1 ∈ Ws ∨ ∃ host, Cond.fieldLinkNest own idx ref (T k).2.1 (T k).2.2.1 host ∈ nws)
/-- the same, in a class's own constructor, of a final field that it declares -/
def a_FF (own : String) (idx ci k : Nat) (ty : FieldType) : Prop :=
  ∃ (C : String) (T : u_T) (N : Nat) (t0 : Nat → FieldType), classes[ci]? = some (C, T, N) ∧ (∀ w ∈ u_ws C T N, w ∈ Ws) ∧ k < N ∧ (∀ j, j < N → parseFieldDescriptor (T j).2.2.1 = some (t0 j)) ∧ (∀ a, a < N → ∀ b, b < N → a ≠ b → (T a).2.1 ≠ (T b).2.1) ∧ t0 k = ty ∧ (T k).2.2.2 = true ∧ (T k).1 = own ∧ Cond.fieldLink own idx own (T k).2.1 (T k).2.2.1 ∈ Ws
def a_fit (ty : FieldType) (v : Value) : Prop := ∀ b bs : Nat, narrow ty (a_v b bs v) = a_v b bs v ∧ fits ty (a_v b bs v) = true
theorem a_fit_i (x : Int32) : a_fit .int (.int x) := fun _ _ => ⟨rfl, rfl⟩
theorem a_fit_l (x : Int64) : a_fit .long (.long x) := fun _ _ => ⟨rfl, rfl⟩
theorem a_fit_o (C : String) (k : Nat) : a_fit (.object C) (.ref k) := fun _ _ => ⟨rfl, rfl⟩
theorem a_fit_a (t : FieldType) (k : Nat) : a_fit (.array t) (.ref k) := fun _ _ => ⟨rfl, rfl⟩
theorem a_fit_z {x : Int32} (h : x = 0 ∨ x = 1) : a_fit .boolean (.int x) := fun _ _ => by rcases h with rfl | rfl <;> exact ⟨rfl, rfl⟩
section Hp
variable {μ : aM} {R : Room} {Z : aZ} {pc : Nat} {L : List (Nat × Value)} {S : List Value} {n : Nat} {h : aH} {cells slots : Nat}
theorem a_same {s : State} {args : Array Value} {ref own name desc : String} (hts : ∀ w ∈ Ws, w.before args s = true) (hr : ref = own ∨ Cond.sameField ref own name desc ∈ Ws) (x : ClassId × Class × Nat × Field) (hx : s.fieldFound? own name desc = some x) : s.fieldFound? ref name desc = some x := by
  rcases hr with hr | hr
  · rw [hr]; exact hx
  · exact u_same (hts _ hr) x hx
theorem T_get {idx ci k a : Nat} {fin : Bool} {ty : FieldType} {fs : List Value} {v : Value} (hd : decode μ.2.1 pc = .ok (.getfield idx, 3)) (hf : a_F μ.1.cls idx ci k fin ty) (ha : h a = some (.inr (ci, fs))) (hv : fs[k]? = some v) (kk : Tri μ R Z (pc + 3) L (v :: S) n h cells slots) : Tri μ R Z pc L (.ref a :: S) n h cells slots := by
  intro p l e s m args below meth c κ D b bs X0 H locs ls C T V
  have kk := kk p l e s m args below meth c κ D b bs X0 H locs ls C T V
  obtain ⟨C1, C2, C3, C4, C5, C6, C7, C8, C9, C10, C11, C12, C13⟩ := C
  obtain ⟨j, rfl, hj, he⟩ := a_pos C13 T ha (fun _ _ q => by cases q)
  obtain ⟨Cn, Tt, N, ref, t0, f1, f2, f3, f4, f5, f6, f7, f8, f9⟩ := hf
  have hv' : (fs.map (a_v b bs))[k]? = some (a_v b bs v) := by rw [List.getElem?_map, hv]; rfl
  have hts := C6
  rcases f9 with f9 | ⟨host, f9⟩
  · exact va_get C1 C2 hts f2 C7 C9 T.2.2.1.2 j he f1 k f3 (hts _ f9) (a_same hts f8) hv' hd kk
  · exact va_getN C1 C2 hts f2 C7 C9 T.2.2.1.2 j he f1 k f3 (va_Nw.use rfl (C10 _ f9)) (a_same hts f8) hv' hd kk
theorem T_put {idx ci k a : Nat} {ty : FieldType} {fs : List Value} {v : Value} (hd : decode μ.2.1 pc = .ok (.putfield idx, 3)) (hf : a_F μ.1.cls idx ci k false ty) (ha : h a = some (.inr (ci, fs))) (hl : k < fs.length) (hv : a_fit ty v) (kk : Tri μ R Z (pc + 3) L S n (va_up h a (some (.inr (ci, fs.set k v)))) cells slots) : Tri μ R Z pc L (v :: .ref a :: S) n h cells slots := by
  intro p l e s m args below meth c κ D b bs X0 H locs ls C T V
  have kk := fun H1 locs1 T1 => kk p l e s m args below meth c κ D b bs X0 H1 locs1 ls C T1 V
  obtain ⟨C1, C2, C3, C4, C5, C6, C7, C8, C9, C10, C11, C12, C13⟩ := C
  obtain ⟨j, rfl, hj, he⟩ := a_pos C13 T ha (fun _ _ q => by cases q)
  obtain ⟨Cn, Tt, N, ref, t0, f1, f2, f3, f4, f5, f6, f7, f8, f9⟩ := hf
  have hts := C6
  have hty : parseFieldDescriptor (Tt k).2.2.1 = some ty := by rw [f4 k f3, f6]
  have hE : (Sum.inr (ci, (fs.map (a_v b bs)).set k (a_v b bs v)) : va_E) = a_e κ b bs (.inr (ci, fs.set k v)) := by simp only [a_e, List.map_set]
  rcases f9 with f9 | ⟨host, f9⟩
  · exact va_put C1 C2 hts f2 t0 f4 f5 C7 C9 T.2.2.1.2 a_D T.2.2.2 j he f1 k f3 (hts _ f9) (a_same hts f8) f7 hty (hv b bs).1 (hv b bs).2 (by rw [List.length_map]; exact hl) hd (fun H1 locs1 hP _ hS => kk H1 locs1 (T.put hj hE hP hS))
  · exact va_putN C1 C2 hts f2 t0 f4 f5 C7 C9 T.2.2.1.2 a_D T.2.2.2 j he f1 k f3 (va_Nw.use rfl (C10 _ f9)) (a_same hts f8) f7 hty (hv b bs).1 (hv b bs).2 (by rw [List.length_map]; exact hl) hd (fun H1 locs1 hP _ hS => kk H1 locs1 (T.put hj hE hP hS))
/-- a final field, in the constructor of the class that declares it -/
theorem T_putF {idx ci k a : Nat} {ty : FieldType} {fs : List Value} {v : Value} (hd : decode μ.2.1 pc = .ok (.putfield idx, 3)) (hf : a_FF μ.1.cls idx ci k ty) (hm : μ.1.name = "<init>") (ha : h a = some (.inr (ci, fs))) (hl : k < fs.length) (hv : a_fit ty v) (kk : Tri μ R Z (pc + 3) L S n (va_up h a (some (.inr (ci, fs.set k v)))) cells slots) : Tri μ R Z pc L (v :: .ref a :: S) n h cells slots := by
  intro p l e s m args below meth c κ D b bs X0 H locs ls C T V
  have kk := fun H1 locs1 T1 => kk p l e s m args below meth c κ D b bs X0 H1 locs1 ls C T1 V
  obtain ⟨C1, C2, C3, C4, C5, C6, C7, C8, C9, C10, C11, C12, C13⟩ := C
  obtain ⟨j, rfl, hj, he⟩ := a_pos C13 T ha (fun _ _ q => by cases q)
  obtain ⟨Cn, Tt, N, t0, f1, f2, f3, f4, f5, f6, f7, f8, f9⟩ := hf
  have hts := C6
  have hty : parseFieldDescriptor (Tt k).2.2.1 = some ty := by rw [f4 k f3, f6]
  have hE : (Sum.inr (ci, (fs.map (a_v b bs)).set k (a_v b bs v)) : va_E) = a_e κ b bs (.inr (ci, fs.set k v)) := by simp only [a_e, List.map_set]
  exact va_putF C1 C2 hts f2 t0 f4 f5 C7 C9 T.2.2.1.2 a_D T.2.2.2 j he f1 k f3 (hts _ f9) (fun x hx => by rw [← f8]; exact hx) f7 (C8 hm) f8 hty (hv b bs).1 (hv b bs).2 (by rw [List.length_map]; exact hl) hd (fun H1 locs1 hP _ hS => kk H1 locs1 (T.put hj hE hP hS))
theorem T_iald {a N : Nat} {f : Nat → Int32} {i : Int32} (hd : decode μ.2.1 pc = .ok (.iaload, 1)) (ha : h a = some (.inl (.int, N, .inl f))) (hin : vp_in i N) (kk : Tri μ R Z (pc + 1) L (.int (f i.toNatClampNeg) :: S) n h cells slots) : Tri μ R Z pc L (.int i :: .ref a :: S) n h cells slots := by
  intro p l e s m args below meth c κ D b bs X0 H locs ls C T V
  have kk := kk p l e s m args below meth c κ D b bs X0 H locs ls C T V
  obtain ⟨C1, C2, C3, C4, C5, C6, C7, C8, C9, C10, C11, C12, C13⟩ := C
  by_cases h0 : a = 0
  · subst h0
    rw [T.1] at ha
    rcases C13 with hX | ⟨L1, xs, hX, hX1⟩
    · rw [hX] at ha
      cases ha
    · rw [hX] at ha
      cases ha
      exact va_sld (A := fun q => b ≤ q) C1 C2 hX1 (Nat.lt_of_lt_of_le C11 C12) (Nat.not_le.mpr C11) T.2.2.2 hin hd kk
  · obtain ⟨j, rfl, hj, he⟩ := a_pos' T ha h0
    exact va_iald C1 C2 C9 T.2.2.1.2 j 0 he rfl hin hd kk
theorem T_zald {a N : Nat} {f : Nat → Int32} {i : Int32} (hd : decode μ.2.1 pc = .ok (.baload, 1)) (ha : h a = some (.inl (.boolean, N, .inl f))) (hin : vp_in i N) (kk : Tri μ R Z (pc + 1) L (.int (f i.toNatClampNeg) :: S) n h cells slots) : Tri μ R Z pc L (.int i :: .ref a :: S) n h cells slots := by
  intro p l e s m args below meth c κ D b bs X0 H locs ls C T V
  have kk := kk p l e s m args below meth c κ D b bs X0 H locs ls C T V
  obtain ⟨C1, C2, C3, C4, C5, C6, C7, C8, C9, C10, C11, C12, C13⟩ := C
  obtain ⟨j, rfl, hj, he⟩ := a_pos C13 T ha (fun _ _ q => by cases q)
  exact va_zald C1 C2 C9 T.2.2.1.2 j 1 he rfl hin hd kk
theorem T_aald {a N r : Nat} {f : Nat → Option Nat} {i : Int32} (hd : decode μ.2.1 pc = .ok (.aaload, 1)) (ha : h a = some (.inl (a_tB, N, .inr f))) (hin : vp_in i N) (hr : f i.toNatClampNeg = some r) (kk : Tri μ R Z (pc + 1) L (.ref r :: S) n h cells slots) : Tri μ R Z pc L (.int i :: .ref a :: S) n h cells slots := by
  intro p l e s m args below meth c κ D b bs X0 H locs ls C T V
  have kk := kk p l e s m args below meth c κ D b bs X0 H locs ls C T V
  obtain ⟨C1, C2, C3, C4, C5, C6, C7, C8, C9, C10, C11, C12, C13⟩ := C
  obtain ⟨j, rfl, hj, he⟩ := a_pos C13 T ha (fun _ _ q => by cases q)
  refine va_aldq C1 C2 C9 T.2.2.1.2 j 2 he rfl hin hd ?_
  simp only [hr, Option.map_some]
  exact kk
theorem T_alen {a N : Nat} {ty : FieldType} {g : (Nat → Int32) ⊕ (Nat → Option Nat)} (hd : decode μ.2.1 pc = .ok (.arraylength, 1)) (ha : h a = some (.inl (ty, N, g))) (ht : ty = .int ∨ ty = .boolean ∨ ty = a_tB) (kk : Tri μ R Z (pc + 1) L (.int (nI N) :: S) n h cells slots) : Tri μ R Z pc L (.ref a :: S) n h cells slots := by
  intro p l e s m args below meth c κ D b bs X0 H locs ls C T V
  have kk := kk p l e s m args below meth c κ D b bs X0 H locs ls C T V
  obtain ⟨C1, C2, C3, C4, C5, C6, C7, C8, C9, C10, C11, C12, C13⟩ := C
  by_cases h0 : a = 0
  · subst h0
    rw [T.1] at ha
    rcases C13 with hX | ⟨L1, xs, hX, hX1⟩
    · rw [hX] at ha
      cases ha
    · rw [hX] at ha
      cases ha
      exact va_slen (A := fun q => b ≤ q) C1 C2 hX1 (Nat.lt_of_lt_of_le C11 C12) (Nat.not_le.mpr C11) T.2.2.2 hd kk
  · obtain ⟨j, rfl, hj, he⟩ := a_pos' T ha h0
    have key : ∃ t0 : Nat, (a_ty κ)[t0]? = some (κ ty, ty) := by
      rcases ht with rfl | rfl | rfl
      · exact ⟨0, rfl⟩
      · exact ⟨1, rfl⟩
      · exact ⟨2, rfl⟩
    obtain ⟨t0, ht0⟩ := key
    rcases g with g | g
    · exact va_alen C1 C2 C9 T.2.2.1.2 j t0 he ht0 rfl hd kk
    · exact va_alen C1 C2 C9 T.2.2.1.2 j t0 he ht0 rfl hd kk
theorem T_iast {a N : Nat} {f : Nat → Int32} {i x : Int32} (hd : decode μ.2.1 pc = .ok (.iastore, 1)) (h0 : a ≠ 0) (ha : h a = some (.inl (.int, N, .inl f))) (hin : vp_in i N) (kk : Tri μ R Z (pc + 1) L S n (va_up h a (some (.inl (.int, N, .inl (upd f i.toNatClampNeg x))))) cells slots) : Tri μ R Z pc L (.int x :: .int i :: .ref a :: S) n h cells slots := by
  intro p l e s m args below meth c κ D b bs X0 H locs ls C T V
  have kk := fun H1 locs1 T1 => kk p l e s m args below meth c κ D b bs X0 H1 locs1 ls C T1 V
  obtain ⟨C1, C2, C3, C4, C5, C6, C7, C8, C9, C10, C11, C12, C13⟩ := C
  obtain ⟨j, rfl, hj, he⟩ := a_pos' T ha h0
  exact va_iast C1 C2 C9 T.2.2.1.2 a_D T.2.2.2 j 0 he rfl hin hd (fun H1 locs1 hP _ hS => kk H1 locs1 (T.put hj rfl hP hS))
theorem T_zast {a N : Nat} {f : Nat → Int32} {i x : Int32} (hd : decode μ.2.1 pc = .ok (.bastore, 1)) (ha : h a = some (.inl (.boolean, N, .inl f))) (hin : vp_in i N) (kk : Tri μ R Z (pc + 1) L S n (va_up h a (some (.inl (.boolean, N, .inl (upd f i.toNatClampNeg (vp_nar .boolean x)))))) cells slots) : Tri μ R Z pc L (.int x :: .int i :: .ref a :: S) n h cells slots := by
  intro p l e s m args below meth c κ D b bs X0 H locs ls C T V
  have kk := fun H1 locs1 T1 => kk p l e s m args below meth c κ D b bs X0 H1 locs1 ls C T1 V
  obtain ⟨C1, C2, C3, C4, C5, C6, C7, C8, C9, C10, C11, C12, C13⟩ := C
  obtain ⟨j, rfl, hj, he⟩ := a_pos C13 T ha (fun _ _ q => by cases q)
  exact va_zast C1 C2 C9 T.2.2.1.2 a_D T.2.2.2 j 1 he rfl hin hd (fun H1 locs1 hP _ hS => kk H1 locs1 (T.put hj rfl hP hS))
theorem a_upm (b bs : Nat) (f : Nat → Option Nat) (i r : Nat) : (fun j => ((va_up f i (some r)) j).map (a_ad b bs)) = va_up (fun j => (f j).map (a_ad b bs)) i (some (a_ad b bs r)) := by
  funext j
  by_cases hj : j = i
  · subst hj; simp [va_up]
  · simp [va_up, hj]
theorem T_aast {a N r ci : Nat} {f : Nat → Option Nat} {i : Int32} {fs : List Value} {q : vw_C} (hd : decode μ.2.1 pc = .ok (.aastore, 1)) (ha : h a = some (.inl (a_tB, N, .inr f))) (hr : h r = some (.inr (ci, fs))) (hq : classes[ci]? = some q) (hq1 : q.1 = "OnceWire$Bytes") (hin : vp_in i N) (kk : Tri μ R Z (pc + 1) L S n (va_up h a (some (.inl (a_tB, N, .inr (va_up f i.toNatClampNeg (some r)))))) cells slots) : Tri μ R Z pc L (.ref r :: .int i :: .ref a :: S) n h cells slots := by
  intro p l e s m args below meth c κ D b bs X0 H locs ls C T V
  have kk := fun H1 locs1 T1 => kk p l e s m args below meth c κ D b bs X0 H1 locs1 ls C T1 V
  obtain ⟨C1, C2, C3, C4, C5, C6, C7, C8, C9, C10, C11, C12, C13⟩ := C
  obtain ⟨j, rfl, hj, he⟩ := a_pos C13 T ha (fun _ _ q => by cases q)
  obtain ⟨j2, rfl, hj2, he2⟩ := a_pos C13 T hr (fun _ _ q => by cases q)
  refine va_astq (r := q) C1 C2 C9 T.2.2.1.2 a_D T.2.2.2 j 2 j2 ci he (by rw [hq1]; rfl) he2 hq hin hd (fun H1 locs1 hP _ hS => kk H1 locs1 (T.put hj ?_ hP hS))
  simp only [a_e, a_upm]
  rfl
/-- a written world, by what it says -/
theorem T_up {a : Nat} {c : aC} (kk : ∀ h' : aH, h' a = some c → (∀ q, q ≠ a → h' q = h q) → Tri μ R Z pc L S n h' cells slots) : Tri μ R Z pc L S n (va_up h a (some c)) cells slots := kk _ (va_up_self h a (some c)) (fun q hq => va_up_ne h (some c) hq)
-- making
/-- own's pool entry idx is class number ci, of N fields that begin as fs -/
def a_N (own : String) (idx ci N : Nat) (fs : List Value) : Prop :=
  ∃ (C : String) (T : u_T) (t0 : Nat → FieldType), classes[ci]? = some (C, T, N) ∧ (∀ w ∈ u_ws C T N, w ∈ Ws) ∧ (∀ j, j < N → parseFieldDescriptor (T j).2.2.1 = some (t0 j)) ∧ Cond.classLink own idx C ∈ Ws ∧ Cond.instantiable C N ∈ Ws ∧ Cond.initialized C ∈ Ws ∧ (∀ j, j < N → defaultValue (t0 j) = vp_V fs j) ∧ ∀ b bs : Nat, fs.map (a_v b bs) = fs
theorem T_new {idx ci N : Nat} {fs : List Value} (hd : decode μ.2.1 pc = .ok (.new idx, 3)) (hf : a_N μ.1.cls idx ci N fs) (hc : cells + 1 ≤ R.cells) (hs : slots + N ≤ R.slots) (kk : Tri μ R Z (pc + 3) L (.ref (n + 1) :: S) (n + 1) (va_up h (n + 1) (some (.inr (ci, fs)))) (cells + 1) (slots + N)) : Tri μ R Z pc L S n h cells slots := by
  intro p l e s m args below meth c κ D b bs X0 H locs ls C T V
  have kk := fun H1 locs1 T1 => kk p l e s m args below meth c κ D b bs X0 H1 locs1 ls C T1 V
  obtain ⟨C1, C2, C3, C4, C5, C6, C7, C8, C9, C10, C11, C12, C13⟩ := C
  obtain ⟨Cn, Tt, t0, f1, f2, f3, f4, f5, f6, f7, f8⟩ := hf
  have hts := C6
  refine a_size C12 T (fun hz => ?_)
  have hKn := C9.1 ci _ f1
  refine W.newcK C1 C2 C7 (hts _ f4) (hts _ f5) (hts _ f6) rfl hd hc hs hKn.2.1 hz fun H1 kC hkC e1 z1 o1 => ?_
  refine kk H1 locs (T.push hz ?_ (by rw [z1, hz]) (fun q hq => o1 q (by rw [← hz]; exact hq)))
  show ∃ r : vw_C, classes[ci]? = some r ∧ t_OB (b + n) (D.1 ci) r.2.2 (D.2 ci) H1 (vp_V (fs.map (a_v b bs)))
  refine ⟨_, f1, (u_born t0 hts f2 hKn hkC e1 f3).to ?_⟩
  intro j hj
  rw [f8]
  exact f7 j hj
theorem a_kA {s : State} {D : va_G} {κ : FieldType → ClassId} {cA : ClassId} (hK : va_K D classes (a_ty κ) s) : (s.vm.findClass ("[" ++ FieldType.int.toString) = some cA → cA = κ .int) ∧ (s.vm.findClass ("[" ++ FieldType.boolean.toString) = some cA → cA = κ .boolean) ∧ (s.vm.findClass ("[" ++ a_tB.toString) = some cA → cA = κ a_tB) := by
  refine ⟨fun q => ?_, fun q => ?_, fun q => ?_⟩
  · have h1 : s.vm.findClass ("[" ++ FieldType.int.toString) = some (κ .int) := (hK.2 0 _ rfl).2
    exact Option.some.inj (q.symm.trans h1)
  · have h1 : s.vm.findClass ("[" ++ FieldType.boolean.toString) = some (κ .boolean) := (hK.2 1 _ rfl).2
    exact Option.some.inj (q.symm.trans h1)
  · obtain ⟨_, _, _, _, _, h1⟩ := (hK.2 2 _ rfl).2
    exact Option.some.inj (q.symm.trans h1)
theorem T_newi {i : Int32} {N : Nat} (hd : decode μ.2.1 pc = .ok (.newarray .int, 2)) (hw : Cond.arrayClass .int ∈ Ws) (hi : ¬ i < 0) (hN : i.toNatClampNeg = N) (hb : N ≤ 100000) (hc : cells + 1 ≤ R.cells) (hs : slots + N ≤ R.slots) (kk : Tri μ R Z (pc + 2) L (.ref (n + 1) :: S) (n + 1) (va_up h (n + 1) (some (.inl (.int, N, .inl (fun _ => 0))))) (cells + 1) (slots + N)) : Tri μ R Z pc L (.int i :: S) n h cells slots := by
  intro p l e s m args below meth c κ D b bs X0 H locs ls C T V
  have kk := fun H1 locs1 T1 => kk p l e s m args below meth c κ D b bs X0 H1 locs1 ls C T1 V
  obtain ⟨C1, C2, C3, C4, C5, C6, C7, C8, C9, C10, C11, C12, C13⟩ := C
  have hts := C6
  refine a_size C12 T (fun hz => ?_)
  refine va_newaK C1 C2 (atype := .int) (hts _ hw) rfl hd rfl hi hN (by show N * 4 ≤ _; omega) hc hs hz fun H1 cA e1 z1 o1 hAr hNm => ?_
  have hcA : cA = κ .int := (a_kA C9).1 hNm
  subst hcA
  exact kk H1 locs (T.push hz e1 (by rw [z1, hz]) (fun q hq => o1 q (by rw [← hz]; exact hq)))
theorem T_newz {i : Int32} {N : Nat} (hd : decode μ.2.1 pc = .ok (.newarray .boolean, 2)) (hw : Cond.arrayClass .boolean ∈ Ws) (hi : ¬ i < 0) (hN : i.toNatClampNeg = N) (hb : N ≤ 100000) (hc : cells + 1 ≤ R.cells) (hs : slots + N ≤ R.slots) (kk : Tri μ R Z (pc + 2) L (.ref (n + 1) :: S) (n + 1) (va_up h (n + 1) (some (.inl (.boolean, N, .inl (fun _ => 0))))) (cells + 1) (slots + N)) : Tri μ R Z pc L (.int i :: S) n h cells slots := by
  intro p l e s m args below meth c κ D b bs X0 H locs ls C T V
  have kk := fun H1 locs1 T1 => kk p l e s m args below meth c κ D b bs X0 H1 locs1 ls C T1 V
  obtain ⟨C1, C2, C3, C4, C5, C6, C7, C8, C9, C10, C11, C12, C13⟩ := C
  have hts := C6
  refine a_size C12 T (fun hz => ?_)
  refine va_newaK C1 C2 (atype := .boolean) (hts _ hw) rfl hd rfl hi hN (by show N * 1 ≤ _; omega) hc hs hz fun H1 cA e1 z1 o1 hAr hNm => ?_
  have hcA : cA = κ .boolean := (a_kA C9).2.1 hNm
  subst hcA
  exact kk H1 locs (T.push hz e1 (by rw [z1, hz]) (fun q hq => o1 q (by rw [← hz]; exact hq)))
theorem T_newq {idx : Nat} {i : Int32} {N : Nat} (hd : decode μ.2.1 pc = .ok (.anewarray idx, 3)) (hw : Cond.classLink μ.1.cls idx "OnceWire$Bytes" ∈ Ws) (hw2 : Cond.arrayOver a_tB ∈ nws) (hi : ¬ i < 0) (hN : i.toNatClampNeg = N) (hb : N ≤ 100000) (hc : cells + 1 ≤ R.cells) (hs : slots + N ≤ R.slots) (kk : Tri μ R Z (pc + 3) L (.ref (n + 1) :: S) (n + 1) (va_up h (n + 1) (some (.inl (a_tB, N, .inr (fun _ => none))))) (cells + 1) (slots + N)) : Tri μ R Z pc L (.int i :: S) n h cells slots := by
  intro p l e s m args below meth c κ D b bs X0 H locs ls C T V
  have kk := fun H1 locs1 T1 => kk p l e s m args below meth c κ D b bs X0 H1 locs1 ls C T1 V
  obtain ⟨C1, C2, C3, C4, C5, C6, C7, C8, C9, C10, C11, C12, C13⟩ := C
  have hts := C6
  subst hN
  refine a_size C12 T (fun hz => ?_)
  refine W.anew C1 C2 C7 (hts _ hw) (va_AO.use (C10 _ hw2)) rfl hd rfl hi (by omega) hc hs fun cA kA comp f1 f2 f3 f4 => ?_
  have hcA : cA = κ a_tB := (a_kA C9).2.2 f1
  subst hcA
  have e1 : ∀ Z : Cell, (H.push Z)[b + n]? = some Z := fun Z => by rw [← hz, Array.getElem?_push_size]
  refine W.eq (g2 := F0 m (pc + 3) ls (.ref (b + n) :: S.map (a_v b bs))) (by rw [hz]) (kk _ locs (T.push hz ?_ (by rw [Array.size_push]) (fun q hq => by rw [Array.getElem?_push, if_neg (Nat.ne_of_lt hq)])))
  show (H.push _)[b + n]? = some (vp_cell _ _)
  rw [e1, vp_cell_q]
  exact congrArg some (arrV_new _ _ _)
end Hp
-- ends
section En
variable {μ : aM} {d mc ms : Nat} {Q : aQ} {pc : Nat} {L : List (Nat × Value)} {S : List Value} {n : Nat} {h : aH} {cells slots : Nat}
theorem T_iret {v : Int32} (hd : decode μ.2.1 pc = .ok (.ireturn, 1)) (hr : μ.2.2.2 = some .int) (hc : cells = mc) (hs : slots ≤ ms) (hq : Q (some (.int v)) h) : Tri μ (a_rm d mc ms) (a_Z mc ms Q) pc L [.int v] n h cells slots := by
  intro p l e s m args below meth c κ D b bs X0 H locs ls C T V
  obtain ⟨C1, C2, C3, C4, C5, C6, C7, C8, C9, C10, C11, C12, C13⟩ := C
  subst hc
  obtain ⟨t1, t2, t3, t4⟩ := T
  refine W.widen (k := cells) (n := ms) (Nat.le_refl _) hs ?_
  exact W.iret C1 C2 (C4.trans hr) (fun t ht _ => ⟨⟨some (.int v), n, h, hq, t1, t2, rfl, by rw [ht]; exact t3⟩, t4.F ht⟩) t4.2.2 hd C5
theorem T_zret {v : Int32} (hd : decode μ.2.1 pc = .ok (.ireturn, 1)) (hr : μ.2.2.2 = some .boolean) (hv : v = 0 ∨ v = 1) (hc : cells = mc) (hs : slots ≤ ms) (hq : Q (some (.int v)) h) : Tri μ (a_rm d mc ms) (a_Z mc ms Q) pc L [.int v] n h cells slots := by
  intro p l e s m args below meth c κ D b bs X0 H locs ls C T V
  obtain ⟨C1, C2, C3, C4, C5, C6, C7, C8, C9, C10, C11, C12, C13⟩ := C
  subst hc
  obtain ⟨t1, t2, t3, t4⟩ := T
  refine W.widen (k := cells) (n := ms) (Nat.le_refl _) hs ?_
  exact W.zret C1 C2 (C4.trans hr) (by rcases hv with rfl | rfl <;> rfl) (fun t ht _ => ⟨⟨some (.int v), n, h, hq, t1, t2, rfl, by rw [ht]; exact t3⟩, t4.F ht⟩) t4.2.2 hd C5
theorem T_lret {v : Int64} (hd : decode μ.2.1 pc = .ok (.lreturn, 1)) (hr : μ.2.2.2 = some .long) (hc : cells = mc) (hs : slots ≤ ms) (hq : Q (some (.long v)) h) : Tri μ (a_rm d mc ms) (a_Z mc ms Q) pc L [.long v] n h cells slots := by
  intro p l e s m args below meth c κ D b bs X0 H locs ls C T V
  obtain ⟨C1, C2, C3, C4, C5, C6, C7, C8, C9, C10, C11, C12, C13⟩ := C
  subst hc
  obtain ⟨t1, t2, t3, t4⟩ := T
  refine W.widen (k := cells) (n := ms) (Nat.le_refl _) hs ?_
  exact W.lret C1 C2 (C4.trans hr) (fun t ht _ => ⟨⟨some (.long v), n, h, hq, t1, t2, rfl, by rw [ht]; exact t3⟩, t4.F ht⟩) t4.2.2 hd C5
theorem T_aret {v : Nat} {C0 : String} (hd : decode μ.2.1 pc = .ok (.areturn, 1)) (hr : μ.2.2.2 = some (.object C0)) (hc : cells = mc) (hs : slots ≤ ms) (hq : Q (some (.ref v)) h) : Tri μ (a_rm d mc ms) (a_Z mc ms Q) pc L [.ref v] n h cells slots := by
  intro p l e s m args below meth c κ D b bs X0 H locs ls C T V
  obtain ⟨C1, C2, C3, C4, C5, C6, C7, C8, C9, C10, C11, C12, C13⟩ := C
  subst hc
  obtain ⟨t1, t2, t3, t4⟩ := T
  refine W.widen (k := cells) (n := ms) (Nat.le_refl _) hs ?_
  exact W.aret (v := .ref (a_ad b bs v)) C1 C2 (C4.trans hr) (Or.inl ⟨_, rfl⟩) (Or.inr ⟨_, rfl⟩) (fun t ht _ => ⟨⟨some (.ref v), n, h, hq, t1, t2, rfl, by rw [ht]; exact t3⟩, t4.F ht⟩) t4.2.2 hd C5
theorem T_vret (hd : decode μ.2.1 pc = .ok (.return_, 1)) (hr : μ.2.2.2 = none) (hc : cells = mc) (hs : slots ≤ ms) (hq : Q none h) : Tri μ (a_rm d mc ms) (a_Z mc ms Q) pc L [] n h cells slots := by
  intro p l e s m args below meth c κ D b bs X0 H locs ls C T V
  obtain ⟨C1, C2, C3, C4, C5, C6, C7, C8, C9, C10, C11, C12, C13⟩ := C
  subst hc
  obtain ⟨t1, t2, t3, t4⟩ := T
  refine W.widen (k := cells) (n := ms) (Nat.le_refl _) hs ?_
  exact W.vret C1 C2 (C4.trans hr) (fun t ht _ => ⟨⟨none, n, h, hq, t1, t2, rfl, by rw [ht]; exact t3⟩, t4.F ht⟩) t4.2.2 hd C5
end En
