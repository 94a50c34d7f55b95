/-! Rows of the abstract layer: calls. -/
/-- behind a call -/
theorem a_call {p : Program} {l : Launch} {e : Env} {R : Room} {s : State} {m : MethodId} {args : Array Value} {below : List Frame} {meth : Method} {c : Code} {H : Heap} {locs : List Loc} {cells slots : Nat} {Qw : State → Prop} {κ : FieldType → ClassId} {D : va_G} {b bs n mc' ms' pc : Nat} {X0 : Option aC} {h : aH} {ls : Array Slot} {st0 rest : List Value} {a : Array Value} {Q' : aQ}
    (hr : va_Run p l e R s m args below meth c H locs cells slots mc' ms' (F0 m pc ls st0) rest (a_Q κ D b bs mc' X0 Q' a) (fun q => b ≤ q)) (T : a_St κ D b bs X0 s n h cells H locs) (hz : H.size = b + n)
    (kk : ∀ (r : Option Value) (h' : aH) (H1 : Heap) (locs1 : List Loc), Q' r h' → a_St κ D b bs X0 s (n + mc') h' (cells + mc') H1 locs1 → W p l e R s m args below meth c H1 locs1 (cells + mc') (slots + ms') Qw (F0 m (pc + 3) ls ((r.map (a_v b bs)).toList ++ rest))) : W p l e R s m args below meth c H locs cells slots Qw (F0 m pc ls st0) := by
  intro T1 hT X
  obtain ⟨v, st₀, t, T', Lc, h0, X', hL, e1, e2, ⟨⟨r, n', h', hq, hx, hn, hv, hR⟩, hzz, hk⟩, st⟩ := hr T1 hT X
  cases hv
  rw [h0] at hzz hk hn
  obtain ⟨t1, t2, t3, t4⟩ := T
  have hn' : n' = n + mc' := by omega
  subst hn'
  obtain ⟨t5, a1, b1⟩ := kk r h' T'.heap (locs ++ Lc) hq ⟨hx, by omega, by rw [e1]; exact hR, ⟨Nat.le_trans t4.1 (by rw [e1]; exact hzz), fun q h1 h2 => by rw [e1, hk q (Nat.lt_of_lt_of_le h1 t4.1) h2]; exact t4.2.1 q h1 h2, fun q hq => by
      rcases List.mem_append.mp hq with h | h
      · exact t4.2.2 q h
      · exact hL q h⟩⟩ T' rfl X'
  exact ⟨t5, st t5 a1, b1⟩
theorem a_app (b bs : Nat) (r : Option Value) (S : List Value) : (r.toList ++ S).map (a_v b bs) = (r.map (a_v b bs)).toList ++ S.map (a_v b bs) := by cases r <;> rfl
def a_d (μ' : aM) (np : Nat) : Prop := (μ'.1.cls ≠ "java/lang/invoke/MethodHandle" ∧ μ'.1.cls ≠ "java/lang/invoke/VarHandle") ∧ (parseMethodDescriptor μ'.1.desc).map (fun d => d.parameters.length) = some np ∧ μ'.2.2.1 ≤ 11 ∧ Cond.initialized μ'.1.cls ∈ Ws ∧ Cond.code μ'.1 μ'.2.1 μ'.2.2.1 μ'.2.2.2 ∈ Ws
def a_IS (own : String) (idx : Nat) (μ' : aM) (np : Nat) : Prop := a_d μ' np ∧ Cond.methodLink own idx μ'.1 ∈ Ws ∧ Cond.static μ'.1 ∈ Ws
def a_II (own : String) (idx : Nat) (μ' : aM) (np : Nat) : Prop := a_d μ' np ∧ Cond.methodLink own idx μ'.1 ∈ Ws ∧ Cond.instanceMethod μ'.1 ∈ Ws ∧ μ'.1.name = "<init>" ∧ μ'.2.2.2 = none
def a_IIN (own : String) (idx : Nat) (μ' : aM) (np : Nat) : Prop := a_d μ' np ∧ (∃ host, Cond.methodLinkNest own idx μ'.1 host ∈ nws) ∧ Cond.instanceMethod μ'.1 ∈ Ws ∧ μ'.1.name = "<init>" ∧ μ'.2.2.2 = none
def a_IV (own : String) (idx : Nat) (μ' : aM) (np ci : Nat) : Prop := a_d μ' np ∧ Cond.methodLink own idx μ'.1 ∈ Ws ∧ Cond.instanceMethod μ'.1 ∈ Ws ∧ ∃ r : vw_C, classes[ci]? = some r ∧ Cond.selects r.1 μ'.1 μ'.1 ∈ Ws
/-- the method that is named is abstract: x, of the class owner -/
def a_IA (own : String) (idx : Nat) (x : MethodName) (μ' : aM) (np ci : Nat) : Prop := a_d μ' np ∧ Cond.methodLink own idx x ∈ Ws ∧ Cond.instanceMethod μ'.1 ∈ Ws ∧ Cond.sameMethod x.cls x.cls x.name x.desc ∈ Ws ∧ Cond.declares x ∈ nws ∧ x.desc = μ'.1.desc ∧ (x.cls ≠ "java/lang/invoke/MethodHandle" ∧ x.cls ≠ "java/lang/invoke/VarHandle") ∧ ∃ r : vw_C, classes[ci]? = some r ∧ Cond.selects r.1 x μ'.1 ∈ Ws
section Cl
variable {μ : aM} {R : Room} {Z : aZ} {pc : Nat} {L : List (Nat × Value)} {S S0 : List Value} {n : Nat} {h : aH} {cells slots : Nat}
theorem a_callB {μ' : aM} {s : State} {args : Array Value} {own : String} {idx np d' mc' ms' : Nat} (hts : ∀ w ∈ Ws, w.before args s = true) (hs : a_d μ' np) (hl : Cond.methodLink own idx μ'.1 ∈ Ws) (hd' : d' + 1 ≤ R.frames ∧ 30 * (d' + 1) ≤ R.locals) : CallB R s args own idx μ'.1 μ'.2.1 μ'.2.2.1 μ'.2.2.2 (a_w μ') (a_rm d' mc' ms') mc' ms' np := by
  obtain ⟨s1, s2, s3, s4, s5⟩ := hs
  refine ⟨rfl, rfl, hd'.1, ?_, pay_in hts (a_goodIn s5), List.mem_cons_self, hts _ s5, hts _ s4, s1, fun sig hsig => ?_, hts _ hl⟩
  · show 8 + (μ'.2.2.1 + 11) + 30 * d' ≤ R.locals
    omega
  · rw [hsig] at s2
    exact (Option.some.inj s2).symm
theorem T_ivS {μ' : aM} {d' mc' ms' idx np : Nat} {as : List Value} {Q' : aQ} (hd : decode μ.2.1 pc = .ok (.invokestatic idx, 3)) (hs : a_IS μ.1.cls idx μ' np) (hc : Con μ' d' mc' ms' n as h Q') (hS : S0 = as.reverse ++ S) (hn : as.length = np) (hd' : d' + 1 ≤ R.frames ∧ 30 * (d' + 1) ≤ R.locals) (hm : cells + mc' ≤ R.cells ∧ slots + ms' ≤ R.slots) (hW : (S.map fun v => v.category).sum ≤ 8)
    (k : ∀ (r : Option Value) (h' : aH), Q' r h' → Tri μ R Z (pc + 3) L (r.toList ++ S) (n + mc') h' (cells + mc') (slots + ms')) : Tri μ R Z pc L S0 n h cells slots := by
  subst hS
  subst hn
  intro p l e s m args below meth c κ D b bs X0 H locs ls C T V
  have hC := C
  obtain ⟨C1, C2, C3, C4, C5, C6, C7, C8, C9, C10, C11, C12, C13⟩ := C
  refine a_size C12 T (fun hz => ?_)
  have hM := hc l κ D b bs
  rw [T.1] at hM
  refine a_call (va_runS (As := as.map (a_v b bs)) (rest := S.map (a_v b bs)) ⟨C1, C2, C3, C7, C6⟩ hM ⟨a_callB C6 hs.1 hs.2.1 hd', C6 _ hs.2.2⟩ ⟨a_blind, fun U hU hW => ⟨rfl, a_pre hC T hz hU hW⟩⟩ rfl (by rw [List.length_map]) V.1 (by rw [List.map_append, List.map_reverse]) (lv_room (by rw [a_sum]; exact hW)) hd hm) T hz (fun r h' H1 locs1 hq T' => ?_)
  rw [← a_app]
  exact k r h' hq p l e s m args below meth c κ D b bs X0 H1 locs1 ls hC T' V
theorem T_ivI {μ' : aM} {d' mc' ms' idx a np : Nat} {as : List Value} {Q' : aQ} (hd : decode μ.2.1 pc = .ok (.invokespecial idx, 3)) (hs : a_II μ.1.cls idx μ' np) (hc : Con μ' d' mc' ms' n (.ref a :: as) h Q') (hS : S0 = as.reverse ++ .ref a :: S) (hn : as.length = np) (hd' : d' + 1 ≤ R.frames ∧ 30 * (d' + 1) ≤ R.locals) (hm : cells + mc' ≤ R.cells ∧ slots + ms' ≤ R.slots) (hW : (S.map fun v => v.category).sum ≤ 8)
    (k : ∀ (r : Option Value) (h' : aH), Q' r h' → Tri μ R Z (pc + 3) L (r.toList ++ S) (n + mc') h' (cells + mc') (slots + ms')) : Tri μ R Z pc L S0 n h cells slots := by
  subst hS
  subst hn
  intro p l e s m args below meth c κ D b bs X0 H locs ls C T V
  have hC := C
  obtain ⟨C1, C2, C3, C4, C5, C6, C7, C8, C9, C10, C11, C12, C13⟩ := C
  refine a_size C12 T (fun hz => ?_)
  have hM := hc l κ D b bs
  rw [T.1] at hM
  obtain ⟨s1, s2, s3, s4, s5⟩ := hs
  have hB := a_callB (R := R) (mc' := mc') (ms' := ms') C6 s1 s2 hd'
  rw [s5] at hB
  refine a_call (va_runI (b := a_ad b bs a) (As := as.map (a_v b bs)) (rest := S.map (a_v b bs)) ⟨C1, C2, C3, C7, C6⟩ hM ⟨hB, s4, C6 _ s3⟩ ⟨a_blind, fun U hU hW => ⟨rfl, a_pre hC T hz hU hW⟩⟩ rfl (by rw [List.length_map]) V.1 (by rw [List.map_append, List.map_reverse]; rfl) (lv_room (by rw [a_sum]; exact hW)) hd hm) T hz (fun r h' H1 locs1 hq T' => ?_)
  rw [← a_app]
  exact k r h' hq p l e s m args below meth c κ D b bs X0 H1 locs1 ls hC T' V
/-- a nest mate's private constructor -/
theorem T_ivIN {μ' : aM} {d' mc' ms' idx a np : Nat} {as : List Value} {Q' : aQ} (hd : decode μ.2.1 pc = .ok (.invokespecial idx, 3)) (hs : a_IIN μ.1.cls idx μ' np) (hc : Con μ' d' mc' ms' n (.ref a :: as) h Q') (hS : S0 = as.reverse ++ .ref a :: S) (hn : as.length = np) (hd' : d' + 1 ≤ R.frames ∧ 30 * (d' + 1) ≤ R.locals) (hm : cells + mc' ≤ R.cells ∧ slots + ms' ≤ R.slots) (hW : (S.map fun v => v.category).sum ≤ 8)
    (k : ∀ (r : Option Value) (h' : aH), Q' r h' → Tri μ R Z (pc + 3) L (r.toList ++ S) (n + mc') h' (cells + mc') (slots + ms')) : Tri μ R Z pc L S0 n h cells slots := by
  subst hS
  subst hn
  intro p l e s m args below meth c κ D b bs X0 H locs ls C T V
  have hC := C
  obtain ⟨C1, C2, C3, C4, C5, C6, C7, C8, C9, C10, C11, C12, C13⟩ := C
  refine a_size C12 T (fun hz => ?_)
  have hM := hc l κ D b bs
  rw [T.1] at hM
  obtain ⟨⟨q1, q2, q3, q4, q5⟩, ⟨host, s2⟩, s3, s4, s5⟩ := hs
  have hw := C6
  have hCN : va_CN R s args μ.1.cls idx μ'.1 host μ'.2.1 μ'.2.2.1 none (a_w μ') (a_rm d' mc' ms') mc' ms' as.length := by
    rw [← s5]
    refine ⟨⟨rfl, rfl, hd'.1, ?_, pay_in C6 (a_goodIn q5), List.mem_cons_self⟩, hw _ q5, hw _ q4, q1, fun sig hsig => ?_, va_Nw.use rfl (C10 _ s2)⟩
    · show 8 + (μ'.2.2.1 + 11) + 30 * d' ≤ R.locals
      omega
    · rw [hsig] at q2
      exact (Option.some.inj q2).symm
  refine a_call (va_runIN (host := host) (b := a_ad b bs a) (As := as.map (a_v b bs)) (rest := S.map (a_v b bs)) ⟨C1, C2, C3, C7, C6⟩ hM ⟨hCN, s4, hw _ s3⟩ ⟨a_blind, fun U hU hW => ⟨rfl, a_pre hC T hz hU hW⟩⟩ rfl (by rw [List.length_map]) V.1 (by rw [List.map_append, List.map_reverse]; rfl) (lv_room (by rw [a_sum]; exact hW)) hd hm) T hz (fun r h' H1 locs1 hq T' => ?_)
  rw [← a_app]
  exact k r h' hq p l e s m args below meth c κ D b bs X0 H1 locs1 ls hC T' V
theorem T_ivV {μ' : aM} {d' mc' ms' idx a ci np : Nat} {as fs : List Value} {Q' : aQ} (hd : decode μ.2.1 pc = .ok (.invokevirtual idx, 3)) (hs : a_IV μ.1.cls idx μ' np ci) (hc : Con μ' d' mc' ms' n (.ref a :: as) h Q') (ha : h a = some (.inr (ci, fs))) (hS : S0 = as.reverse ++ .ref a :: S) (hn : as.length = np) (hd' : d' + 1 ≤ R.frames ∧ 30 * (d' + 1) ≤ R.locals) (hm : cells + mc' ≤ R.cells ∧ slots + ms' ≤ R.slots) (hW : (S.map fun v => v.category).sum ≤ 8)
    (k : ∀ (r : Option Value) (h' : aH), Q' r h' → Tri μ R Z (pc + 3) L (r.toList ++ S) (n + mc') h' (cells + mc') (slots + ms')) : Tri μ R Z pc L S0 n h cells slots := by
  subst hS
  subst hn
  intro p l e s m args below meth c κ D b bs X0 H locs ls C T V
  have hC := C
  obtain ⟨C1, C2, C3, C4, C5, C6, C7, C8, C9, C10, C11, C12, C13⟩ := C
  refine a_size C12 T (fun hz => ?_)
  have hM := hc l κ D b bs
  rw [T.1] at hM
  obtain ⟨s1, s2, s3, r0, s4, s5⟩ := hs
  obtain ⟨j, rfl, hj, he⟩ := a_pos C13 T ha (fun _ _ q => by cases q)
  refine a_call (va_runV (C := r0.1) (b := b + j) (As := as.map (a_v b bs)) (rest := S.map (a_v b bs)) ⟨C1, C2, C3, C7, C6⟩ hM ⟨a_callB C6 s1 s2 hd', C6 _ s3, C6 _ s5⟩ ⟨a_blind, va_recv C9 T.2.2.1.2 s4 he, fun U hU hW => ⟨rfl, a_pre hC T hz hU hW⟩⟩ rfl (by rw [List.length_map]) V.1 (by rw [List.map_append, List.map_reverse]; rfl) (lv_room (by rw [a_sum]; exact hW)) hd hm) T hz (fun r h' H1 locs1 hq T' => ?_)
  rw [← a_app]
  exact k r h' hq p l e s m args below meth c κ D b bs X0 H1 locs1 ls hC T' V
theorem T_ivA {μ' : aM} {x : MethodName} {d' mc' ms' idx a ci np : Nat} {as fs : List Value} {Q' : aQ} (hd : decode μ.2.1 pc = .ok (.invokevirtual idx, 3)) (hs : a_IA μ.1.cls idx x μ' np ci) (hc : Con μ' d' mc' ms' n (.ref a :: as) h Q') (ha : h a = some (.inr (ci, fs))) (hS : S0 = as.reverse ++ .ref a :: S) (hn : as.length = np) (hd' : d' + 1 ≤ R.frames ∧ 30 * (d' + 1) ≤ R.locals) (hm : cells + mc' ≤ R.cells ∧ slots + ms' ≤ R.slots) (hW : (S.map fun v => v.category).sum ≤ 8)
    (k : ∀ (r : Option Value) (h' : aH), Q' r h' → Tri μ R Z (pc + 3) L (r.toList ++ S) (n + mc') h' (cells + mc') (slots + ms')) : Tri μ R Z pc L S0 n h cells slots := by
  subst hS
  subst hn
  intro p l e s m args below meth c κ D b bs X0 H locs ls C T V
  have hC := C
  obtain ⟨C1, C2, C3, C4, C5, C6, C7, C8, C9, C10, C11, C12, C13⟩ := C
  refine a_size C12 T (fun hz => ?_)
  have hM := hc l κ D b bs
  rw [T.1] at hM
  obtain ⟨⟨q1, q2, q3, q4, q5⟩, s2, s3, s4, s5, s6, s7, r0, s8, s9⟩ := hs
  obtain ⟨j, rfl, hj, he⟩ := a_pos C13 T ha (fun _ _ q => by cases q)
  have hw := C6
  have hCU : va_CU R s args μ.1.cls r0.1 x.cls idx x μ'.1 μ'.2.1 μ'.2.2.1 μ'.2.2.2 (a_w μ') (a_rm d' mc' ms') mc' ms' as.length := by
    refine ⟨⟨rfl, rfl, hd'.1, ?_, pay_in C6 (a_goodIn q5), List.mem_cons_self⟩, hw _ q5, hw _ q4, s7, fun sig hsig => ?_, hw _ s2, hw _ s4, va_Decl.abs (C10 _ s5), hw _ s9, hw _ s3⟩
    · show 8 + (μ'.2.2.1 + 11) + 30 * d' ≤ R.locals
      omega
    · rw [s6] at hsig
      rw [hsig] at q2
      exact (Option.some.inj q2).symm
  refine a_call (va_runU (C := r0.1) (owner := x.cls) (b := b + j) (As := as.map (a_v b bs)) (rest := S.map (a_v b bs)) ⟨C1, C2, C3, C7, C6⟩ hM hCU ⟨a_blind, va_recv C9 T.2.2.1.2 s8 he, fun U hU hW => ⟨rfl, a_pre hC T hz hU hW⟩⟩ rfl (by rw [List.length_map]) V.1 (by rw [List.map_append, List.map_reverse]; rfl) (lv_room (by rw [a_sum]; exact hW)) hd hm) T hz (fun r h' H1 locs1 hq T' => ?_)
  rw [← a_app]
  exact k r h' hq p l e s m args below meth c κ D b bs X0 H1 locs1 ls hC T' V
theorem T_objInit {idx a : Nat} (hd : decode μ.2.1 pc = .ok (.invokespecial idx, 3)) (hs : Cond.methodLink μ.1.cls idx Lib.objectInit ∈ Ws ∧ Cond.instanceMethod Lib.objectInit ∈ Ws ∧ Cond.code Lib.objectInit ⟨#[0xb1]⟩ 1 none ∈ Ws) (hd1 : 1 ≤ R.frames ∧ 30 ≤ R.locals) (hW : (S.map fun v => v.category).sum ≤ 8) (k : Tri μ R Z (pc + 3) L S n h cells slots) : Tri μ R Z pc L (.ref a :: S) n h cells slots := by
  intro p l e s m args below meth c κ D b bs X0 H locs ls C T V
  have k := k p l e s m args below meth c κ D b bs X0 H locs ls C T V
  obtain ⟨C1, C2, C3, C4, C5, C6, C7, C8, C9, C10, C11, C12, C13⟩ := C
  have hw := C6
  refine W.objInit C1 C2 C7 (hw _ hs.1) (hw _ hs.2.1) (hw _ hs.2.2) rfl (V.1.trans C3.symm) rfl hd hd1.1 ?_ k
  have e := a_sum b bs S
  show 2 * 0 + _ + 12 ≤ R.locals
  omega
theorem T_max {idx : Nat} {x y : Int32} (hd : decode μ.2.1 pc = .ok (.invokestatic idx, 3)) (hs : Cond.methodLink μ.1.cls idx Lib.Math.max.name ∈ Ws ∧ Cond.static Lib.Math.max.name ∈ Ws ∧ Cond.initialized "java/lang/Math" ∈ Ws ∧ Cond.code Lib.Math.max.name Lib.Math.max.code 2 (some .int) ∈ Ws) (hd1 : 1 ≤ R.frames ∧ 30 ≤ R.locals) (hm : cells ≤ R.cells ∧ slots ≤ R.slots) (hW : (S.map fun v => v.category).sum ≤ 8) (k : Tri μ R Z (pc + 3) L (.int (if x < y then y else x) :: S) n h cells slots) : Tri μ R Z pc L (.int y :: .int x :: S) n h cells slots := by
  intro p l e s m args below meth c κ D b bs X0 H locs ls C T V
  have k := k p l e s m args below meth c κ D b bs X0 H locs ls C T V
  obtain ⟨C1, C2, C3, C4, C5, C6, C7, C8, C9, C10, C11, C12, C13⟩ := C
  have hw := C6
  have e := a_sum b bs S
  exact va_mmax C1 C2 (C3.trans V.1.symm) C7 (hw _ hs.1) (hw _ hs.2.1) (hw _ hs.2.2.1) (hw _ hs.2.2.2) hd1.1 (by omega) hm.1 hm.2 hd k
theorem T_min {idx : Nat} {x y : Int32} (hd : decode μ.2.1 pc = .ok (.invokestatic idx, 3)) (hs : Cond.methodLink μ.1.cls idx Lib.Math.min.name ∈ Ws ∧ Cond.static Lib.Math.min.name ∈ Ws ∧ Cond.initialized "java/lang/Math" ∈ Ws ∧ Cond.code Lib.Math.min.name Lib.Math.min.code 2 (some .int) ∈ Ws) (hd1 : 1 ≤ R.frames ∧ 30 ≤ R.locals) (hm : cells ≤ R.cells ∧ slots ≤ R.slots) (hW : (S.map fun v => v.category).sum ≤ 8) (k : Tri μ R Z (pc + 3) L (.int (if y < x then y else x) :: S) n h cells slots) : Tri μ R Z pc L (.int y :: .int x :: S) n h cells slots := by
  intro p l e s m args below meth c κ D b bs X0 H locs ls C T V
  have k := k p l e s m args below meth c κ D b bs X0 H locs ls C T V
  obtain ⟨C1, C2, C3, C4, C5, C6, C7, C8, C9, C10, C11, C12, C13⟩ := C
  have hw := C6
  have e := a_sum b bs S
  exact va_mmin C1 C2 (C3.trans V.1.symm) C7 (hw _ hs.1) (hw _ hs.2.1) (hw _ hs.2.2.1) (hw _ hs.2.2.2) hd1.1 (by omega) hm.1 hm.2 hd k
theorem T_copy {idx a0 a N0 N1 : Nat} {f g : Nat → Int32} {sp dp i : Int32} (hd : decode μ.2.1 pc = .ok (.invokestatic idx, 3)) (hs : Cond.methodLink μ.1.cls idx arraycopyName ∈ Ws ∧ Cond.native arraycopyName ∈ Ws ∧ Cond.static arraycopyName ∈ Ws ∧ Cond.initialized "java/lang/System" ∈ Ws) (hz0 : a0 ≠ 0) (hz1 : a ≠ 0) (ha0 : h a0 = some (.inl (.int, N0, .inl f))) (ha : h a = some (.inl (.int, N1, .inl g))) (h1 : ¬ sp < 0) (h2 : ¬ dp < 0) (h3 : ¬ i < 0) (h4 : sp.toNatClampNeg + i.toNatClampNeg ≤ N0) (h5 : dp.toNatClampNeg + i.toNatClampNeg ≤ N1) (hd1 : 1 ≤ R.frames ∧ 30 ≤ R.locals) (hW : (S.map fun v => v.category).sum + (nativeFrameWords "java/lang/System" "arraycopy" 5 + 11) ≤ R.locals)
    (k : Tri μ R Z (pc + 3) L S n (va_up h a (some (.inl (.int, N1, .inl (va_cpy f g sp.toNatClampNeg dp.toNatClampNeg i.toNatClampNeg))))) cells slots) : Tri μ R Z pc L (.int i :: .int dp :: .ref a :: .int sp :: .ref a0 :: S) n h cells slots := by
  intro p l e s m args below meth c κ D b bs X0 H locs ls C T V
  have kk := fun H1 locs1 T1 => k p l e s m args below meth c κ D b bs X0 H1 locs1 ls C T1 V
  obtain ⟨C1, C2, C3, C4, C5, C6, C7, C8, C9, C10, C11, C12, C13⟩ := C
  have hw := C6
  obtain ⟨j0, rfl, hj0, he0⟩ := a_pos' T ha0 hz0
  obtain ⟨j, rfl, hj, he⟩ := a_pos' T ha hz1
  exact va_copyi C1 C2 (C3.trans V.1.symm) C7 (hw _ hs.1) (hw _ hs.2.1) (hw _ hs.2.2.1) (hw _ hs.2.2.2) C9 T.2.2.1.2 a_D T.2.2.2 j0 j 0 0 he0 he rfl rfl rfl h1 h2 h3 h4 h5 (fun _ _ => rfl) hd1.1 (by rw [a_sum]; exact hW) hd (fun H1 locs1 hP _ hS => kk H1 locs1 (T.put hj rfl hP hS))
end Cl
