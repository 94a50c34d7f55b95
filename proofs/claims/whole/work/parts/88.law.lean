/-! The law: its entry, its end, cell. -/
theorem w_K {s : State} {args : Array Value} (hts : ∀ w ∈ Ws, w.before args s = true) (hAO : va_AO "OnceWire$Bytes" s) (hi : Cond.arrayClass .int ∈ Ws) (hz : Cond.arrayClass .boolean ∈ Ws) : ∃ (D : va_G) (κ : FieldType → ClassId), va_K D classes (a_ty κ) s := by
  have h1 : ∀ c : Nat, ∃ x : ClassId × (Nat → Nat), ∀ q, classes[c]? = some q → u_Kn s q.1 q.2.1 q.2.2 x.1 x.2 := by
    intro c
    cases hq : classes[c]? with
    | none => exact ⟨(0, id), fun q h => by cases h⟩
    | some q =>
      obtain ⟨g1, g2⟩ := cl_ok q (List.mem_of_getElem? hq)
      obtain ⟨cC, iS, h⟩ := u_known hts g1 (hts _ g2)
      exact ⟨(cC, iS), fun q' h' => by cases h'; exact h⟩
  obtain ⟨f, hf⟩ := Classical.axiomOfChoice h1
  obtain ⟨cI, kI, compI, e1, e2, e3⟩ := Cond.arrayClass_spec (hts _ hi)
  obtain ⟨cZ, kZ, compZ, g1, g2, g3⟩ := Cond.arrayClass_spec (hts _ hz)
  obtain ⟨comp, cB, kB, b1, b2, b3, b4, b5⟩ := Cond.arrayOver_spec hAO
  refine ⟨(fun c => (f c).1, fun c => (f c).2), fun t => if t = .int then cI else if t = .boolean then cZ else cB, fun c q hq => hf c q hq, fun k q hk => ?_⟩
  match k, hk with
  | 0, hk =>
    cases hk
    exact ⟨fun n z => ⟨fun k h => (by cases h), kI, e2, compI, e3⟩, e1⟩
  | 1, hk =>
    cases hk
    exact ⟨fun n z => ⟨fun k h => (by cases h), kZ, g2, compZ, g3⟩, g1⟩
  | 2, hk =>
    cases hk
    exact ⟨fun n z => ⟨fun k h => (by cases h), kB, b3, comp, b4⟩, kB, comp, b3, b4, b1, b5⟩
  | k + 3, hk => cases hk
def ZL : aZ := fun below args s _ _ b bs _ t => (b = s.heap.size ∧ args = #[Value.ref bs]) → lw_Z below args s t
theorem T_lend {L : List (Nat × Value)} {n : Nat} {h : aH} {cells slots pc : Nat} (hdg : decode code pc = .ok (.ireturn, 1)) (hc : cells ≤ 600000) (hs : slots ≤ 7302250) : Tri M_Lw_law room_1 ZL pc L [.int 1] n h cells slots := by
  intro p l e s m args below meth c κ D b bs X0 H locs ls C T V
  obtain ⟨C1, C2, C3, C4, C5, C6, C7, C8, C9, C10, C11, C12, C13⟩ := C
  obtain ⟨t1, t2, t3, t4⟩ := T
  by_cases hz : b = s.heap.size ∧ args = #[Value.ref bs]
  · obtain ⟨z1, z2⟩ := id hz
    subst z2
    have k1 := lw_ret (p := p) (l := l) (e := e) (s := s) (m := m) (below := below) (meth := meth) (c := c) (b := bs) C1 C2 C4 C5 (pc := pc) (H := H) (ls := ls) hdg
    have k2 : W p l e room_1 s m #[Value.ref bs] below meth c H locs cells slots (lw_Z below #[Value.ref bs] s) (F0 m pc ls [.int 1]) := va_forget (fun q hq => z1 ▸ t4.2.2 q hq) (W.widen (k := 600000) (n := 7302250) hc hs k1)
    intro T' hT' X'
    obtain ⟨t, a, q⟩ := k2 T' hT' X'
    exact ⟨t, a, fun _ => q⟩
  · intro T' hT' X'
    exact ⟨_, Steps.refl _, fun z => absurd z hz⟩
theorem law_start {p : Program} {e : Env} {s : State} {m : MethodId} {below : List Frame} {meth : Method} {c : Code} (l : Launch) {b L : Nat} {xs : Nat → Int32} (C0 : lw_At p s m meth c b L xs) (k : Tri M_Lw_law room_1 ZL 0 [(0, .ref 0)] [] 0 (fun q => if q = 0 then some (.inl (.int, L, .inl xs)) else none) 0 0) : W p l e room_1 s m #[Value.ref b] below meth c s.heap [] 0 0 (lw_Z below #[Value.ref b] s) (entryFrame m ([Value.ref b] : List Value).toArray 4) := by
  obtain ⟨c1, c2, c3, c4, c5, hts, hX, hbl, hlk, hgv⟩ := C0
  have hW : ∀ w ∈ Ws, w.before #[Value.ref b] s = true := fun w hw => hts w (tq_Ws w hw)
  obtain ⟨D, κ, hK⟩ := w_K hW (tq_AO hts) (Ws_at (i := 5) (k := 30) rfl rfl) (Ws_at (i := 6) (k := 23) rfl rfl)
  have k1 := k p l e s m #[Value.ref b] below meth c κ D s.heap.size b (some (.inl (.int, L, .inl xs))) s.heap [] (entryFrame m ([Value.ref b] : List Value).toArray 4).locals ⟨c1, c2, c4, c3, hlk, hW, c5, fun q => absurd q (by decide), hK, tq_nws hts, hbl, Nat.le_refl _, Or.inr ⟨L, xs, rfl, hX⟩⟩ ⟨rfl, rfl, ⟨fun k => ⟨fun q => (by cases q), fun q => absurd q (Nat.not_lt_zero k)⟩, fun k q hq => (by cases hq)⟩, va_S.rf⟩ (lv_entry [Value.ref b] (n := 4) (Nat.le_of_ble_eq_true rfl))
  intro T' hT' X'
  obtain ⟨t, a, q⟩ := k1 T' hT' X'
  exact ⟨t, a, q ⟨rfl, rfl⟩⟩
