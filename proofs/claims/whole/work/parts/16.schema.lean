/-! OnceWire$Schema: a list of fields (number, kind, repeated). -/
abbrev Sf : Type := Nat × Nat × Bool
def keyN (t : Sf) : Nat := 8 * t.1 + (if t.2.1 = 2 then 5 else 0)
def bI (b : Bool) : Int32 := if b then 1 else 0
theorem bI_01 (b : Bool) : bI b = 0 ∨ bI b = 1 := by cases b <;> simp [bI]
def oI (o : Option Nat) : Int32 := match o with
  | some i => nI i
  | none => -1
def Sc (h : aH) (a : Nat) (ns : List Sf) : Prop := ∃ fn fk fe fr : Nat → Int32, h a = some (.inr (5, [.ref (a + 1), .ref (a + 2), .ref (a + 3), .ref (a + 4), .int (nI ns.length)])) ∧ h (a + 1) = some (.inl (.int, 4, .inl fn)) ∧ h (a + 2) = some (.inl (.int, 4, .inl fk)) ∧ h (a + 3) = some (.inl (.int, 4, .inl fe)) ∧ h (a + 4) = some (.inl (.boolean, 4, .inl fr)) ∧ ns.length ≤ 4 ∧ ∀ i t, ns[i]? = some t → fn i = nI t.1 ∧ fk i = nI t.2.1 ∧ fe i = nI (keyN t) ∧ fr i = bI t.2.2 ∧ 1 ≤ t.1 ∧ t.1 ≤ 30 ∧ t.2.1 ≤ 3
theorem Sc.le {h : aH} {a : Nat} {ns : List Sf} (hs : Sc h a ns) : ns.length ≤ 4 := by
  obtain ⟨_, _, _, _, _, _, _, _, _, q, _⟩ := hs
  exact q
theorem Sc.obj {h : aH} {a : Nat} {ns : List Sf} (hs : Sc h a ns) : h a = some (.inr (5, [.ref (a + 1), .ref (a + 2), .ref (a + 3), .ref (a + 4), .int (nI ns.length)])) := by
  obtain ⟨_, _, _, _, q, _⟩ := hs
  exact q
theorem Sc.rng {h : aH} {a : Nat} {ns : List Sf} (hs : Sc h a ns) {i : Nat} {t : Sf} (ht : ns[i]? = some t) : 1 ≤ t.1 ∧ t.1 ≤ 30 ∧ t.2.1 ≤ 3 := by
  obtain ⟨_, _, _, _, _, _, _, _, _, _, q⟩ := hs
  exact (q i t ht).2.2.2.2
theorem Sc.same {h h' : aH} {a : Nat} {ns : List Sf} (hs : Sc h a ns) (o : ∀ q, a ≤ q → q ≤ a + 4 → h' q = h q) : Sc h' a ns := by
  obtain ⟨f1, f2, f3, f4, q0, q1, q2, q3, q4, q5, q6⟩ := hs
  exact ⟨f1, f2, f3, f4, (o a (by omega) (by omega)).trans q0, (o _ (by omega) (by omega)).trans q1, (o _ (by omega) (by omega)).trans q2, (o _ (by omega) (by omega)).trans q3, (o _ (by omega) (by omega)).trans q4, q5, q6⟩
/-- the first field of that number -/
def ixF (x : Int32) : List Sf → Nat → Option Nat
  | [], _ => none
  | t :: ts, i => if nI t.1 = x then some i else ixF x ts (i + 1)
def dcl (ns : List Sf) (x k : Int32) (r : Bool) : Int32 × List Sf := if x < 1 ∨ 30 < x ∨ k < 0 ∨ 3 < k then (-4, ns) else if ixF x ns 0 ≠ none then (-4, ns) else if 4 ≤ ns.length then (-5, ns) else (nI ns.length, ns ++ [(x.toNatClampNeg, k.toNatClampNeg, r)])
set_option maxRecDepth 100000 in
set_option maxHeartbeats 4000000 in
theorem c_Schema_init {a : Nat} {h : aH} (hS : h a = some (.inr (5, [.null, .null, .null, .null, .int 0]))) : Con M_Schema_init 1 4 16 a [.ref a] h (fun r h' => r = none ∧ Sc h' a [] ∧ ∀ q, q < a ∨ a + 4 < q → h' q = h q) := by
  refine Con.of rfl (Nat.le_of_ble_eq_true rfl) ?_
  refine T_aload_n (pc := 0) d_Schema_init_0 rfl ?_
  refine T_objInit (pc := 1) d_Schema_init_1 sI_Schema_3 ⟨(Nat.le_of_ble_eq_true rfl), (Nat.le_of_ble_eq_true rfl)⟩ (Nat.le_of_ble_eq_true rfl) ?_
  refine T_aload_n (pc := 4) d_Schema_init_4 rfl ?_
  refine T_iconst (v := 4) (pc := 5) d_Schema_init_5 rfl ?_
  refine T_newi (pc := 6) d_Schema_init_6 (Ws_at (i := 5) (k := 30) rfl rfl) (by decide) rfl (by decide) (Nat.le_of_ble_eq_true rfl) (Nat.le_of_ble_eq_true rfl) (T_up (fun h6x1 g6x1 o6x1 => ?_))
  have hS_6x1 := (o6x1 a (by omega)).trans hS
  refine T_putF (pc := 8) d_Schema_init_8 sFF_Schema_11_Schema rfl hS_6x1 (Nat.le_of_ble_eq_true rfl) (a_fit_a _ _) (T_up (fun h8x2 g8x2 o8x2 => ?_))
  have g6x1_8x2 := (o8x2 (a + 1) (by omega)).trans g6x1
  refine T_aload_n (pc := 11) d_Schema_init_11 rfl ?_
  refine T_iconst (v := 4) (pc := 12) d_Schema_init_12 rfl ?_
  refine T_newi (pc := 13) d_Schema_init_13 (Ws_at (i := 5) (k := 30) rfl rfl) (by decide) rfl (by decide) (Nat.le_of_ble_eq_true rfl) (Nat.le_of_ble_eq_true rfl) (T_up (fun h13x3 g13x3 o13x3 => ?_))
  have g8x2_13x3 := (o13x3 a (by omega)).trans g8x2
  have g6x1_13x3 := (o13x3 (a + 1) (by omega)).trans g6x1_8x2
  refine T_putF (pc := 15) d_Schema_init_15 sFF_Schema_15_Schema rfl g8x2_13x3 (Nat.le_of_ble_eq_true rfl) (a_fit_a _ _) (T_up (fun h15x4 g15x4 o15x4 => ?_))
  have g6x1_15x4 := (o15x4 (a + 1) (by omega)).trans g6x1_13x3
  have g13x3_15x4 := (o15x4 (a + 2) (by omega)).trans g13x3
  refine T_aload_n (pc := 18) d_Schema_init_18 rfl ?_
  refine T_iconst (v := 4) (pc := 19) d_Schema_init_19 rfl ?_
  refine T_newi (pc := 20) d_Schema_init_20 (Ws_at (i := 5) (k := 30) rfl rfl) (by decide) rfl (by decide) (Nat.le_of_ble_eq_true rfl) (Nat.le_of_ble_eq_true rfl) (T_up (fun h20x5 g20x5 o20x5 => ?_))
  have g15x4_20x5 := (o20x5 a (by omega)).trans g15x4
  have g6x1_20x5 := (o20x5 (a + 1) (by omega)).trans g6x1_15x4
  have g13x3_20x5 := (o20x5 (a + 2) (by omega)).trans g13x3_15x4
  refine T_putF (pc := 22) d_Schema_init_22 sFF_Schema_18_Schema rfl g15x4_20x5 (Nat.le_of_ble_eq_true rfl) (a_fit_a _ _) (T_up (fun h22x6 g22x6 o22x6 => ?_))
  have g6x1_22x6 := (o22x6 (a + 1) (by omega)).trans g6x1_20x5
  have g13x3_22x6 := (o22x6 (a + 2) (by omega)).trans g13x3_20x5
  have g20x5_22x6 := (o22x6 (a + 3) (by omega)).trans g20x5
  refine T_aload_n (pc := 25) d_Schema_init_25 rfl ?_
  refine T_iconst (v := 4) (pc := 26) d_Schema_init_26 rfl ?_
  refine T_newz (pc := 27) d_Schema_init_27 (Ws_at (i := 6) (k := 23) rfl rfl) (by decide) rfl (by decide) (Nat.le_of_ble_eq_true rfl) (Nat.le_of_ble_eq_true rfl) (T_up (fun h27x7 g27x7 o27x7 => ?_))
  have g22x6_27x7 := (o27x7 a (by omega)).trans g22x6
  have g6x1_27x7 := (o27x7 (a + 1) (by omega)).trans g6x1_22x6
  have g13x3_27x7 := (o27x7 (a + 2) (by omega)).trans g13x3_22x6
  have g20x5_27x7 := (o27x7 (a + 3) (by omega)).trans g20x5_22x6
  refine T_putF (pc := 29) d_Schema_init_29 sFF_Schema_21_Schema rfl g22x6_27x7 (Nat.le_of_ble_eq_true rfl) (a_fit_a _ _) (T_up (fun h29x8 g29x8 o29x8 => ?_))
  have g6x1_29x8 := (o29x8 (a + 1) (by omega)).trans g6x1_27x7
  have g13x3_29x8 := (o29x8 (a + 2) (by omega)).trans g13x3_27x7
  have g20x5_29x8 := (o29x8 (a + 3) (by omega)).trans g20x5_27x7
  have g27x7_29x8 := (o29x8 (a + 4) (by omega)).trans g27x7
  refine T_aload_n (pc := 32) d_Schema_init_32 rfl ?_
  refine T_iconst (v := 0) (pc := 33) d_Schema_init_33 rfl ?_
  refine T_put (pc := 34) d_Schema_init_34 sF_Schema_25_Schema g29x8 (Nat.le_of_ble_eq_true rfl) (a_fit_i _) (T_up (fun h34x9 g34x9 o34x9 => ?_))
  have g6x1_34x9 := (o34x9 (a + 1) (by omega)).trans g6x1_29x8
  have g13x3_34x9 := (o34x9 (a + 2) (by omega)).trans g13x3_29x8
  have g20x5_34x9 := (o34x9 (a + 3) (by omega)).trans g20x5_29x8
  have g27x7_34x9 := (o34x9 (a + 4) (by omega)).trans g27x7_29x8
  refine T_vret (pc := 37) d_Schema_init_37 rfl rfl (Nat.le_refl _) ?_
  refine ⟨rfl, ⟨_, _, _, _, g34x9, g6x1_34x9, g13x3_34x9, g20x5_34x9, g27x7_34x9, by decide, fun i t ht => by simp at ht⟩, fun q hq => ?_⟩
  rw [o34x9 q (by omega), o29x8 q (by omega), o27x7 q (by omega), o22x6 q (by omega), o20x5 q (by omega), o15x4 q (by omega), o13x3 q (by omega), o8x2 q (by omega), o6x1 q (by omega)]
set_option maxRecDepth 100000 in
set_option maxHeartbeats 4000000 in
theorem c_Schema_has {n a : Nat} {h : aH} {f : Int32} {ns : List Sf} (hs : Sc h a ns) : Con M_Schema_has 0 0 0 n [.ref a, .int f] h (fun r h' => r = some (.int (if 0 ≤ f ∧ f < nI ns.length then 1 else 0)) ∧ h' = h) := by
  refine Con.of rfl (Nat.le_of_ble_eq_true rfl) ?_
  refine T_iload_n (pc := 0) d_Schema_has_0 rfl ?_
  refine T_if_lt (tgt := 16) (pc := 1) d_Schema_has_1 (by decide) (fun q1 => ?_) (fun q1 => ?_)
  · refine T_iconst (v := 0) (pc := 16) d_Schema_has_16 rfl ?_
    refine T_zret (pc := 17) d_Schema_has_17 rfl (by decide) rfl (Nat.le_refl _) ?_
    refine ⟨?_, rfl⟩
    first
      | rw [if_neg (fun q => absurd q.1 (Int32.not_le.mpr q1))]
      | rw [if_neg (fun q => absurd q.2 (Int32.not_lt.mpr q9))]
      | rw [if_pos ⟨Int32.not_lt.mp q1, Int32.not_le.mp q9⟩]
  · refine T_iload_n (pc := 4) d_Schema_has_4 rfl ?_
    refine T_aload_n (pc := 5) d_Schema_has_5 rfl ?_
    refine T_get (pc := 6) d_Schema_has_6 sF_Schema_25_Schema hs.obj rfl ?_
    refine T_icmp_ge (tgt := 16) (pc := 9) d_Schema_has_9 (by decide) (fun q9 => ?_) (fun q9 => ?_)
    · refine T_iconst (v := 0) (pc := 16) d_Schema_has_16 rfl ?_
      refine T_zret (pc := 17) d_Schema_has_17 rfl (by decide) rfl (Nat.le_refl _) ?_
      refine ⟨?_, rfl⟩
      first
        | rw [if_neg (fun q => absurd q.1 (Int32.not_le.mpr q1))]
        | rw [if_neg (fun q => absurd q.2 (Int32.not_lt.mpr q9))]
        | rw [if_pos ⟨Int32.not_lt.mp q1, Int32.not_le.mp q9⟩]
    · refine T_iconst (v := 1) (pc := 12) d_Schema_has_12 rfl ?_
      refine T_goto (tgt := 17) (pc := 13) d_Schema_has_13 (by decide) ?_
      refine T_zret (pc := 17) d_Schema_has_17 rfl (by decide) rfl (Nat.le_refl _) ?_
      refine ⟨?_, rfl⟩
      first
        | rw [if_neg (fun q => absurd q.1 (Int32.not_le.mpr q1))]
        | rw [if_neg (fun q => absurd q.2 (Int32.not_lt.mpr q9))]
        | rw [if_pos ⟨Int32.not_lt.mp q1, Int32.not_le.mp q9⟩]
theorem in_has {i L : Nat} (h : i < L) (hL : L < 2 ^ 31) : 0 ≤ nI i ∧ nI i < nI L := ⟨nI_pos' (by omega), nI_lt h hL⟩
theorem ge_lt {l : List Sf} {i : Nat} {t : Sf} (h : l[i]? = some t) : i < l.length := (List.getElem?_eq_some_iff.mp h).1
set_option maxRecDepth 100000 in
set_option maxHeartbeats 4000000 in
theorem c_Schema_kindOf {n a i : Nat} {h : aH} {ns : List Sf} {t : Sf} (hs : Sc h a ns) (ht : ns[i]? = some t) : Con M_Schema_kindOf 1 0 0 n [.ref a, .int (nI i)] h (fun r h' => r = some (.int (nI t.2.1)) ∧ h' = h) := by
  have hi := ge_lt ht
  have hle := hs.le
  obtain ⟨fn, fk, fe, fr, hS, hN, hK, hE, hR, hl, hf⟩ := id hs
  have ht1 := hf i t ht
  refine Con.of rfl (Nat.le_of_ble_eq_true rfl) ?_
  refine T_aload_n (pc := 0) d_Schema_kindOf_0 rfl ?_
  refine T_iload_n (pc := 1) d_Schema_kindOf_1 rfl ?_
  refine T_ivV (pc := 2) d_Schema_kindOf_2 sI_Schema_33 (c_Schema_has hs) hs.obj rfl rfl ⟨(Nat.le_of_ble_eq_true rfl), (Nat.le_of_ble_eq_true rfl)⟩ ⟨(Nat.le_of_ble_eq_true rfl), (Nat.le_of_ble_eq_true rfl)⟩ (Nat.le_of_ble_eq_true rfl) (fun r1 h1 q1 => ?_)
  obtain ⟨rfl, e1⟩ := q1
  rw [e1, if_pos (in_has hi (by omega))]
  refine T_if_eq (tgt := 17) (pc := 5) d_Schema_kindOf_5 (by decide) (fun q5 => ?_) (fun q5 => ?_)
  · exact absurd q5 (by decide)
  · refine T_aload_n (pc := 8) d_Schema_kindOf_8 rfl ?_
    refine T_get (pc := 9) d_Schema_kindOf_9 sF_Schema_15_Schema hS rfl ?_
    refine T_iload_n (pc := 12) d_Schema_kindOf_12 rfl ?_
    refine T_iald (pc := 13) d_Schema_kindOf_13 hK (vp_in_nI (by omega) (by decide)) ?_
    refine T_goto (tgt := 18) (pc := 14) d_Schema_kindOf_14 (by decide) ?_
    refine T_iret (pc := 18) d_Schema_kindOf_18 rfl rfl (Nat.le_refl _) ?_
    refine ⟨?_, rfl⟩
    rw [nI_clamp (by omega), ht1.2.1]
set_option maxRecDepth 100000 in
set_option maxHeartbeats 4000000 in
theorem c_Schema_keyOf {n a i : Nat} {h : aH} {ns : List Sf} {t : Sf} (hs : Sc h a ns) (ht : ns[i]? = some t) : Con M_Schema_keyOf 1 0 0 n [.ref a, .int (nI i)] h (fun r h' => r = some (.int (nI (keyN t))) ∧ h' = h) := by
  have hi := ge_lt ht
  have hle := hs.le
  obtain ⟨fn, fk, fe, fr, hS, hN, hK, hE, hR, hl, hf⟩ := id hs
  have ht1 := hf i t ht
  refine Con.of rfl (Nat.le_of_ble_eq_true rfl) ?_
  refine T_aload_n (pc := 0) d_Schema_keyOf_0 rfl ?_
  refine T_iload_n (pc := 1) d_Schema_keyOf_1 rfl ?_
  refine T_ivV (pc := 2) d_Schema_keyOf_2 sI_Schema_33 (c_Schema_has hs) hs.obj rfl rfl ⟨(Nat.le_of_ble_eq_true rfl), (Nat.le_of_ble_eq_true rfl)⟩ ⟨(Nat.le_of_ble_eq_true rfl), (Nat.le_of_ble_eq_true rfl)⟩ (Nat.le_of_ble_eq_true rfl) (fun r1 h1 q1 => ?_)
  obtain ⟨rfl, e1⟩ := q1
  rw [e1, if_pos (in_has hi (by omega))]
  refine T_if_eq (tgt := 17) (pc := 5) d_Schema_keyOf_5 (by decide) (fun q5 => ?_) (fun q5 => ?_)
  · exact absurd q5 (by decide)
  · refine T_aload_n (pc := 8) d_Schema_keyOf_8 rfl ?_
    refine T_get (pc := 9) d_Schema_keyOf_9 sF_Schema_18_Schema hS rfl ?_
    refine T_iload_n (pc := 12) d_Schema_keyOf_12 rfl ?_
    refine T_iald (pc := 13) d_Schema_keyOf_13 hE (vp_in_nI (by omega) (by decide)) ?_
    refine T_goto (tgt := 18) (pc := 14) d_Schema_keyOf_14 (by decide) ?_
    refine T_iret (pc := 18) d_Schema_keyOf_18 rfl rfl (Nat.le_refl _) ?_
    refine ⟨?_, rfl⟩
    rw [nI_clamp (by omega), ht1.2.2.1]
set_option maxRecDepth 100000 in
set_option maxHeartbeats 4000000 in
theorem c_Schema_isRepeated {n a i : Nat} {h : aH} {ns : List Sf} {t : Sf} (hs : Sc h a ns) (ht : ns[i]? = some t) : Con M_Schema_isRepeated 1 0 0 n [.ref a, .int (nI i)] h (fun r h' => r = some (.int (bI t.2.2)) ∧ h' = h) := by
  have hi := ge_lt ht
  have hle := hs.le
  obtain ⟨fn, fk, fe, fr, hS, hN, hK, hE, hR, hl, hf⟩ := id hs
  have ht1 := hf i t ht
  refine Con.of rfl (Nat.le_of_ble_eq_true rfl) ?_
  refine T_aload_n (pc := 0) d_Schema_isRepeated_0 rfl ?_
  refine T_iload_n (pc := 1) d_Schema_isRepeated_1 rfl ?_
  refine T_ivV (pc := 2) d_Schema_isRepeated_2 sI_Schema_33 (c_Schema_has hs) hs.obj rfl rfl ⟨(Nat.le_of_ble_eq_true rfl), (Nat.le_of_ble_eq_true rfl)⟩ ⟨(Nat.le_of_ble_eq_true rfl), (Nat.le_of_ble_eq_true rfl)⟩ (Nat.le_of_ble_eq_true rfl) (fun r1 h1 q1 => ?_)
  obtain ⟨rfl, e1⟩ := q1
  rw [e1, if_pos (in_has hi (by omega))]
  refine T_if_eq (tgt := 21) (pc := 5) d_Schema_isRepeated_5 (by decide) (fun q5 => ?_) (fun q5 => ?_)
  · refine T_iconst (v := 0) (pc := 21) d_Schema_isRepeated_21 rfl ?_
    refine T_zret (pc := 22) d_Schema_isRepeated_22 rfl (by decide) rfl (Nat.le_refl _) ?_
    first
      | exact absurd q5 (by decide)
      | (rw [nI_clamp (by omega), ht1.2.2.2.1] at q14
         rcases bI_01 t.2.2 with e | e
         · first | exact absurd e q14 | (refine ⟨?_, rfl⟩; rw [e]; done)
         · first | exact absurd (e.symm.trans q14) (by decide) | (refine ⟨?_, rfl⟩; rw [e]; done))
  · refine T_aload_n (pc := 8) d_Schema_isRepeated_8 rfl ?_
    refine T_get (pc := 9) d_Schema_isRepeated_9 sF_Schema_21_Schema hS rfl ?_
    refine T_iload_n (pc := 12) d_Schema_isRepeated_12 rfl ?_
    refine T_zald (pc := 13) d_Schema_isRepeated_13 hR (vp_in_nI (by omega) (by decide)) ?_
    refine T_if_eq (tgt := 21) (pc := 14) d_Schema_isRepeated_14 (by decide) (fun q14 => ?_) (fun q14 => ?_)
    · refine T_iconst (v := 0) (pc := 21) d_Schema_isRepeated_21 rfl ?_
      refine T_zret (pc := 22) d_Schema_isRepeated_22 rfl (by decide) rfl (Nat.le_refl _) ?_
      first
        | exact absurd q5 (by decide)
        | (rw [nI_clamp (by omega), ht1.2.2.2.1] at q14
           rcases bI_01 t.2.2 with e | e
           · first | exact absurd e q14 | (refine ⟨?_, rfl⟩; rw [e]; done)
           · first | exact absurd (e.symm.trans q14) (by decide) | (refine ⟨?_, rfl⟩; rw [e]; done))
    · refine T_iconst (v := 1) (pc := 17) d_Schema_isRepeated_17 rfl ?_
      refine T_goto (tgt := 22) (pc := 18) d_Schema_isRepeated_18 (by decide) ?_
      refine T_zret (pc := 22) d_Schema_isRepeated_22 rfl (by decide) rfl (Nat.le_refl _) ?_
      first
        | exact absurd q5 (by decide)
        | (rw [nI_clamp (by omega), ht1.2.2.2.1] at q14
           rcases bI_01 t.2.2 with e | e
           · first | exact absurd e q14 | (refine ⟨?_, rfl⟩; rw [e]; done)
           · first | exact absurd (e.symm.trans q14) (by decide) | (refine ⟨?_, rfl⟩; rw [e]; done))
set_option maxRecDepth 100000 in
set_option maxHeartbeats 4000000 in
theorem c_Schema_allows {n a i : Nat} {h : aH} {v : Int32} {ns : List Sf} {t : Sf} (hs : Sc h a ns) (ht : ns[i]? = some t) : Con M_Schema_allows 2 0 0 n [.ref a, .int (nI i), .int v] h (fun r h' => r = some (.int (if t.2.1 = 3 ∧ v ≠ 0 ∧ v ≠ 1 then 0 else 1)) ∧ h' = h) := by
  refine Con.of rfl (Nat.le_of_ble_eq_true rfl) ?_
  refine T_aload_n (pc := 0) d_Schema_allows_0 rfl ?_
  refine T_iload_n (pc := 1) d_Schema_allows_1 rfl ?_
  refine T_ivV (pc := 2) d_Schema_allows_2 sI_Schema_37 (c_Schema_kindOf hs ht) hs.obj rfl rfl ⟨(Nat.le_of_ble_eq_true rfl), (Nat.le_of_ble_eq_true rfl)⟩ ⟨(Nat.le_of_ble_eq_true rfl), (Nat.le_of_ble_eq_true rfl)⟩ (Nat.le_of_ble_eq_true rfl) (fun r1 h1 q1 => ?_)
  obtain ⟨rfl, e1⟩ := q1
  rw [e1]
  refine T_iconst (v := 3) (pc := 5) d_Schema_allows_5 rfl ?_
  refine T_icmp_ne (tgt := 18) (pc := 6) d_Schema_allows_6 (by decide) (fun q6 => ?_) (fun q6 => ?_)
  · refine T_iconst (v := 1) (pc := 18) d_Schema_allows_18 rfl ?_
    refine T_goto (tgt := 23) (pc := 19) d_Schema_allows_19 (by decide) ?_
    refine T_zret (pc := 23) d_Schema_allows_23 rfl (by decide) rfl (Nat.le_refl _) ?_
    refine ⟨?_, rfl⟩
    have e3 : (nI t.2.1 = 3) ↔ t.2.1 = 3 := nI_eq (b := 3) (by have := hs.rng ht; omega) (by decide)
    first
      | (have q6' := mt e3.mpr q6; simp [q6']; done)
      | (simp [q10]; done)
      | (simp [q15]; done)
      | (have q6' := e3.mp q6; simp [q6', q10, q15]; done)
  · refine T_iload_n (pc := 9) d_Schema_allows_9 rfl ?_
    refine T_if_eq (tgt := 18) (pc := 10) d_Schema_allows_10 (by decide) (fun q10 => ?_) (fun q10 => ?_)
    · refine T_iconst (v := 1) (pc := 18) d_Schema_allows_18 rfl ?_
      refine T_goto (tgt := 23) (pc := 19) d_Schema_allows_19 (by decide) ?_
      refine T_zret (pc := 23) d_Schema_allows_23 rfl (by decide) rfl (Nat.le_refl _) ?_
      refine ⟨?_, rfl⟩
      have e3 : (nI t.2.1 = 3) ↔ t.2.1 = 3 := nI_eq (b := 3) (by have := hs.rng ht; omega) (by decide)
      first
        | (have q6' := mt e3.mpr q6; simp [q6']; done)
        | (simp [q10]; done)
        | (simp [q15]; done)
        | (have q6' := e3.mp q6; simp [q6', q10, q15]; done)
    · refine T_iload_n (pc := 13) d_Schema_allows_13 rfl ?_
      refine T_iconst (v := 1) (pc := 14) d_Schema_allows_14 rfl ?_
      refine T_icmp_ne (tgt := 22) (pc := 15) d_Schema_allows_15 (by decide) (fun q15 => ?_) (fun q15 => ?_)
      · refine T_iconst (v := 0) (pc := 22) d_Schema_allows_22 rfl ?_
        refine T_zret (pc := 23) d_Schema_allows_23 rfl (by decide) rfl (Nat.le_refl _) ?_
        refine ⟨?_, rfl⟩
        have e3 : (nI t.2.1 = 3) ↔ t.2.1 = 3 := nI_eq (b := 3) (by have := hs.rng ht; omega) (by decide)
        first
          | (have q6' := mt e3.mpr q6; simp [q6']; done)
          | (simp [q10]; done)
          | (simp [q15]; done)
          | (have q6' := e3.mp q6; simp [q6', q10, q15]; done)
      · refine T_iconst (v := 1) (pc := 18) d_Schema_allows_18 rfl ?_
        refine T_goto (tgt := 23) (pc := 19) d_Schema_allows_19 (by decide) ?_
        refine T_zret (pc := 23) d_Schema_allows_23 rfl (by decide) rfl (Nat.le_refl _) ?_
        refine ⟨?_, rfl⟩
        have e3 : (nI t.2.1 = 3) ↔ t.2.1 = 3 := nI_eq (b := 3) (by have := hs.rng ht; omega) (by decide)
        first
          | (have q6' := mt e3.mpr q6; simp [q6']; done)
          | (simp [q10]; done)
          | (simp [q15]; done)
          | (have q6' := e3.mp q6; simp [q6', q10, q15]; done)
set_option maxRecDepth 100000 in
set_option maxHeartbeats 4000000 in
theorem c_Schema_indexOf_loop {n a : Nat} {h : aH} {x : Int32} {ns : List Sf} {Q : aQ} (hs : Sc h a ns) : ∀ (ts : List Sf) (i : Nat), ns.drop i = ts → i ≤ ns.length → Q (some (.int (oI (ixF x ts i)))) h → Tri M_Schema_indexOf (a_rm 0 0 0) (a_Z 0 0 Q) 2 [(2, .int (nI i)), (0, .ref a), (1, .int x)] [] n h 0 0 := by
  have hle := hs.le
  obtain ⟨fn, fk, fe, fr, hS, hN, hK, hE, hR, hl, hf⟩ := id hs
  intro ts
  induction ts with
  | nil =>
    intro i hts hi hQ
    have hi2 : ns.length ≤ i := List.drop_eq_nil_iff.mp hts
    refine T_iload_n (pc := 2) d_Schema_indexOf_2 rfl ?_
    refine T_aload_n (pc := 3) d_Schema_indexOf_3 rfl ?_
    refine T_get (pc := 4) d_Schema_indexOf_4 sF_Schema_25_Schema hS rfl ?_
    refine T_icmp_ge (tgt := 28) (pc := 7) d_Schema_indexOf_7 (by decide) (fun q7 => ?_) (fun q7 => ?_)
    · refine T_iconst (v := -1) (pc := 28) d_Schema_indexOf_28 rfl ?_
      refine T_iret (pc := 29) d_Schema_indexOf_29 rfl rfl (Nat.le_refl _) ?_
      exact hQ
    · exact absurd (nI_le hi2 (by omega)) q7
  | cons t ts ih =>
    intro i hts hi hQ
    have hi2 : i < ns.length := by
      have := congrArg List.length hts
      simp at this
      omega
    have ht : ns[i]? = some t := by
      have := congrArg (fun l => l[0]?) hts
      simpa using this
    have ht1 := hf i t ht
    have hts2 : ns.drop (i + 1) = ts := by
      rw [← List.drop_drop, hts]
      rfl
    refine T_iload_n (pc := 2) d_Schema_indexOf_2 rfl ?_
    refine T_aload_n (pc := 3) d_Schema_indexOf_3 rfl ?_
    refine T_get (pc := 4) d_Schema_indexOf_4 sF_Schema_25_Schema hS rfl ?_
    refine T_icmp_ge (tgt := 28) (pc := 7) d_Schema_indexOf_7 (by decide) (fun q7 => ?_) (fun q7 => ?_)
    · exact absurd q7 (nI_ge hi2 (by omega))
    · refine T_aload_n (pc := 10) d_Schema_indexOf_10 rfl ?_
      refine T_get (pc := 11) d_Schema_indexOf_11 sF_Schema_11_Schema hS rfl ?_
      refine T_iload_n (pc := 14) d_Schema_indexOf_14 rfl ?_
      refine T_iald (pc := 15) d_Schema_indexOf_15 hN (vp_in_nI (by omega) (by decide)) ?_
      refine T_iload_n (pc := 16) d_Schema_indexOf_16 rfl ?_
      refine T_icmp_ne (tgt := 22) (pc := 17) d_Schema_indexOf_17 (by decide) (fun q17 => ?_) (fun q17 => ?_)
      · refine T_iinc (pc := 22) d_Schema_indexOf_22 rfl (nI_1 i) (Nat.le_of_ble_eq_true rfl) rfl ?_
        refine T_goto (tgt := 2) (pc := 25) d_Schema_indexOf_25 (by decide) ?_
        rw [nI_clamp (by omega), ht1.1] at q17
        rw [ixF, if_neg q17] at hQ
        exact ih (i + 1) hts2 (by omega) hQ
      · refine T_iload_n (pc := 20) d_Schema_indexOf_20 rfl ?_
        refine T_iret (pc := 21) d_Schema_indexOf_21 rfl rfl (Nat.le_refl _) ?_
        rw [nI_clamp (by omega), ht1.1] at q17
        rw [ixF, if_pos q17] at hQ
        exact hQ
set_option maxRecDepth 100000 in
set_option maxHeartbeats 4000000 in
theorem c_Schema_indexOf {n a : Nat} {h : aH} {x : Int32} {ns : List Sf} (hs : Sc h a ns) : Con M_Schema_indexOf 0 0 0 n [.ref a, .int x] h (fun r h' => r = some (.int (oI (ixF x ns 0))) ∧ h' = h) := by
  refine Con.of rfl (Nat.le_of_ble_eq_true rfl) ?_
  refine T_iconst (v := 0) (pc := 0) d_Schema_indexOf_0 rfl ?_
  refine T_istore_n (pc := 1) d_Schema_indexOf_1 rfl (Nat.le_of_ble_eq_true rfl) rfl ?_
  exact c_Schema_indexOf_loop hs ns 0 (List.drop_zero) (Nat.zero_le _) ⟨rfl, rfl⟩
