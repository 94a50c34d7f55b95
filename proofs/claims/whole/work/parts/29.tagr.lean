/-! OnceWire$TaggedFormat: reading. -/
theorem rv_le : ∀ (k i : Nat) (acc : Int64) (r : List Int32) (v : Int64) (m : Nat), rv k i acc r = some (v, m) → 1 ≤ m ∧ m ≤ r.length
  | 0, _, _, _, _, _, h => by cases h
  | _ + 1, _, _, [], _, _, h => by cases h
  | k + 1, i, acc, b :: t, v, m, h => by
    rw [rv] at h
    split at h
    · cases h
      simp
    · cases hz : rv k (i + 1) (acc ||| ((b &&& 127).toInt64 <<< ((7 * nI i).toInt64 &&& 63))) t with
      | none =>
        rw [hz] at h
        cases h
      | some q =>
        obtain ⟨v2, m2⟩ := q
        rw [hz] at h
        cases h
        have := rv_le k (i + 1) _ t v2 m2 hz
        simp
        omega
def pay (j : Nat) (r : List Int32) : Option (Int64 × Nat) := if j = 0 then rv 10 0 0 r else if j = 5 then (if r.length < 4 then none else some ((swp (wat r 0)).toInt64, 4)) else if j = 1 then (if r.length < 8 then none else some (0, 8)) else if j = 2 then (match rv 10 0 0 r with
  | none => none
  | some (c, m) => if c < 0 ∨ lN (r.length - m) < c then none else some (0, m + c.toInt.toNat)) else none
def iop (k : Nat) (pl : Int64) : Int32 := if k = 1 then (if pl.toInt32 &&& 1 = 0 then (pl.toInt32.toUInt32 >>> (Int32.toUInt32 1 &&& Int32.toUInt32 31)).toInt32 else -(pl.toInt32.toUInt32 >>> (Int32.toUInt32 1 &&& Int32.toUInt32 31)).toInt32 - 1) else if k = 3 then (if pl = 0 then 0 else 1) else pl.toInt32
set_option maxRecDepth 100000 in
set_option maxHeartbeats 4000000 in
theorem c_TaggedFormat_intOfPayload {n k : Nat} {pl : Int64} {h : aH} (hk : k ≤ 3) : Con M_TaggedFormat_intOfPayload 0 0 0 n [.int (nI k), .long pl] h (fun r h' => r = some (.int (iop k pl)) ∧ h' = h) := by
  refine Con.of rfl (Nat.le_of_ble_eq_true rfl) ?_
  refine T_lload_n (pc := 0) d_TaggedFormat_intOfPayload_0 rfl ?_
  refine T_l2i (pc := 1) d_TaggedFormat_intOfPayload_1 ?_
  refine T_istore_n (pc := 2) d_TaggedFormat_intOfPayload_2 rfl (Nat.le_of_ble_eq_true rfl) rfl ?_
  refine T_iload_n (pc := 3) d_TaggedFormat_intOfPayload_3 rfl ?_
  rcases (show k = 0 ∨ k = 1 ∨ k = 2 ∨ k = 3 by omega) with rfl | rfl | rfl | rfl
  · refine T_lookup (tgt := 66) (pc := 4) d_TaggedFormat_intOfPayload_4 (by decide) (off := 62) (by decide) (by decide) ?_
    refine T_iload_n (pc := 66) d_TaggedFormat_intOfPayload_66 rfl ?_
    refine T_iret (pc := 67) d_TaggedFormat_intOfPayload_67 rfl rfl (Nat.le_refl _) ?_
    exact ⟨rfl, rfl⟩
  · refine T_lookup (tgt := 32) (pc := 4) d_TaggedFormat_intOfPayload_4 (by decide) (off := 28) (by decide) (by decide) ?_
    refine T_iload_n (pc := 32) d_TaggedFormat_intOfPayload_32 rfl ?_
    refine T_iconst (v := 1) (pc := 33) d_TaggedFormat_intOfPayload_33 rfl ?_
    refine T_iushr (pc := 34) d_TaggedFormat_intOfPayload_34 ?_
    refine T_istore (pc := 35) d_TaggedFormat_intOfPayload_35 (Nat.le_of_ble_eq_true rfl) rfl ?_
    refine T_iload_n (pc := 37) d_TaggedFormat_intOfPayload_37 rfl ?_
    refine T_iconst (v := 1) (pc := 38) d_TaggedFormat_intOfPayload_38 rfl ?_
    refine T_iand (pc := 39) d_TaggedFormat_intOfPayload_39 ?_
    refine T_if_ne (tgt := 48) (pc := 40) d_TaggedFormat_intOfPayload_40 (by decide) (fun q40 => ?_) (fun q40 => ?_)
    · refine T_iload (pc := 48) d_TaggedFormat_intOfPayload_48 rfl ?_
      refine T_ineg (pc := 50) d_TaggedFormat_intOfPayload_50 ?_
      refine T_iconst (v := 1) (pc := 51) d_TaggedFormat_intOfPayload_51 rfl ?_
      refine T_isub (pc := 52) d_TaggedFormat_intOfPayload_52 ?_
      refine T_iret (pc := 53) d_TaggedFormat_intOfPayload_53 rfl rfl (Nat.le_refl _) ?_
      refine ⟨?_, rfl⟩
      rw [iop, if_pos rfl]
      first
        | rw [if_neg q40]
        | rw [if_pos q40]
    · refine T_iload (pc := 43) d_TaggedFormat_intOfPayload_43 rfl ?_
      refine T_goto (tgt := 53) (pc := 45) d_TaggedFormat_intOfPayload_45 (by decide) ?_
      refine T_iret (pc := 53) d_TaggedFormat_intOfPayload_53 rfl rfl (Nat.le_refl _) ?_
      refine ⟨?_, rfl⟩
      rw [iop, if_pos rfl]
      first
        | rw [if_neg q40]
        | rw [if_pos q40]
  · refine T_lookup (tgt := 66) (pc := 4) d_TaggedFormat_intOfPayload_4 (by decide) (off := 62) (by decide) (by decide) ?_
    refine T_iload_n (pc := 66) d_TaggedFormat_intOfPayload_66 rfl ?_
    refine T_iret (pc := 67) d_TaggedFormat_intOfPayload_67 rfl rfl (Nat.le_refl _) ?_
    exact ⟨rfl, rfl⟩
  · refine T_lookup (tgt := 54) (pc := 4) d_TaggedFormat_intOfPayload_4 (by decide) (off := 50) (by decide) (by decide) ?_
    refine T_lload_n (pc := 54) d_TaggedFormat_intOfPayload_54 rfl ?_
    refine T_lconst (v := 0) (pc := 55) d_TaggedFormat_intOfPayload_55 rfl ?_
    refine T_lcmp (pc := 56) d_TaggedFormat_intOfPayload_56 ?_
    refine T_if_ne (tgt := 64) (pc := 57) d_TaggedFormat_intOfPayload_57 (by decide) (fun q57 => ?_) (fun q57 => ?_)
    · refine T_iconst (v := 1) (pc := 64) d_TaggedFormat_intOfPayload_64 rfl ?_
      refine T_iret (pc := 65) d_TaggedFormat_intOfPayload_65 rfl rfl (Nat.le_refl _) ?_
      refine ⟨?_, rfl⟩
      rw [iop, if_neg (by decide), if_pos rfl]
      first
        | rw [if_neg (fun e => q57 ((lg_cmp_eq _ _).mpr e))]
        | rw [if_pos ((lg_cmp_eq _ _).mp q57)]
    · refine T_iconst (v := 0) (pc := 60) d_TaggedFormat_intOfPayload_60 rfl ?_
      refine T_goto (tgt := 65) (pc := 61) d_TaggedFormat_intOfPayload_61 (by decide) ?_
      refine T_iret (pc := 65) d_TaggedFormat_intOfPayload_65 rfl rfl (Nat.le_refl _) ?_
      refine ⟨?_, rfl⟩
      rw [iop, if_neg (by decide), if_pos rfl]
      first
        | rw [if_neg (fun e => q57 ((lg_cmp_eq _ _).mpr e))]
        | rw [if_pos ((lg_cmp_eq _ _).mp q57)]
set_option maxRecDepth 100000 in
set_option maxHeartbeats 4000000 in
theorem c_TaggedFormat_takePayload {n rd src cap p j : Nat} {h : aH} {l : List Int32} (hj : j < 8) (hc : cap < 2 ^ 30) (d3 : src + 1 < rd) (hR : Rd h rd src p false) (hb : By h src cap l) (hp : p ≤ l.length) : Con M_TaggedFormat_takePayload 1 0 0 n [.ref rd, .int (nI j)] h (fun r h' => (∀ q, q ≠ rd → h' q = h q) ∧ match pay j (l.drop p) with | some (v, m) => r = some (.long v) ∧ p + m ≤ l.length ∧ Rd h' rd src (p + m) false | none => (∃ v, r = some (.long v)) ∧ ∃ p', p' ≤ l.length ∧ Rd h' rd src p' true) := by
  have hbl := hb.le
  have e3 : (l.drop p).length = l.length - p := List.length_drop
  refine Con.of rfl (Nat.le_of_ble_eq_true rfl) ?_
  refine T_iload_n (pc := 0) d_TaggedFormat_takePayload_0 rfl ?_
  rcases (show j = 0 ∨ j = 1 ∨ j = 2 ∨ j = 3 ∨ j = 4 ∨ j = 5 ∨ j = 6 ∨ j = 7 by omega) with rfl | rfl | rfl | rfl | rfl | rfl | rfl | rfl
  · refine T_tableIn (tgt := 40) (off := 39) (pc := 1) d_TaggedFormat_takePayload_1 (by decide) (by decide) rfl (by decide) ?_
    refine T_aload_n (pc := 40) d_TaggedFormat_takePayload_40 rfl ?_
    refine T_ivV (pc := 41) d_TaggedFormat_takePayload_41 sI_TaggedFormat_83 (c_Reader_takeVarint hR hb hc hp) hR rfl rfl ⟨(Nat.le_of_ble_eq_true rfl), (Nat.le_of_ble_eq_true rfl)⟩ ⟨(Nat.le_of_ble_eq_true rfl), (Nat.le_of_ble_eq_true rfl)⟩ (Nat.le_of_ble_eq_true rfl) (fun r1 h1 q1 => ?_)
    obtain ⟨o1, q1⟩ := q1
    cases hz : rv 10 0 0 (l.drop p) with
    | none =>
      rw [hz] at q1
      obtain ⟨rfl, p1, hp1, hR1⟩ := q1
      refine T_lret (pc := 44) d_TaggedFormat_takePayload_44 rfl rfl (Nat.le_refl _) ?_
      refine ⟨o1, ?_⟩
      rw [show pay 0 (l.drop p) = rv 10 0 0 (l.drop p) from rfl, hz]
      exact ⟨⟨_, rfl⟩, p1, hp1, hR1⟩
    | some z =>
      obtain ⟨v, m⟩ := z
      rw [hz] at q1
      obtain ⟨rfl, hR1⟩ := q1
      have hm := rv_le _ _ _ _ _ _ hz
      refine T_lret (pc := 44) d_TaggedFormat_takePayload_44 rfl rfl (Nat.le_refl _) ?_
      refine ⟨o1, ?_⟩
      rw [show pay 0 (l.drop p) = rv 10 0 0 (l.drop p) from rfl, hz]
      exact ⟨rfl, by omega, hR1⟩
  · refine T_tableIn (tgt := 54) (off := 53) (pc := 1) d_TaggedFormat_takePayload_1 (by decide) (by decide) rfl (by decide) ?_
    refine T_aload_n (pc := 54) d_TaggedFormat_takePayload_54 rfl ?_
    refine T_ldc2 (pc := 55) d_TaggedFormat_takePayload_55 (Ws_at (i := 7) (k := 50) rfl rfl) ?_
    refine T_ivV (pc := 58) d_TaggedFormat_takePayload_58 sI_TaggedFormat_113 (c_Reader_skip hR hb hc hp) hR rfl rfl ⟨(Nat.le_of_ble_eq_true rfl), (Nat.le_of_ble_eq_true rfl)⟩ ⟨(Nat.le_of_ble_eq_true rfl), (Nat.le_of_ble_eq_true rfl)⟩ (Nat.le_of_ble_eq_true rfl) (fun r1 h1 q1 => ?_)
    obtain ⟨rfl, o1, q1⟩ := q1
    refine T_lconst (v := 0) (pc := 61) d_TaggedFormat_takePayload_61 rfl ?_
    refine T_lret (pc := 62) d_TaggedFormat_takePayload_62 rfl rfl (Nat.le_refl _) ?_
    refine ⟨o1, ?_⟩
    have e : pay 1 (l.drop p) = if l.length - p < 8 then none else some (0, 8) := by
      rw [pay, if_neg (by decide), if_neg (by decide), if_pos rfl, e3]
    have e4 : lN (l.length - p) < 8 ↔ l.length - p < 8 := pk_lLT (b := 8) (by omega) (by decide)
    rw [e]
    split at q1
    · rename_i hbad
      have h8 : l.length - p < 8 := e4.mp (hbad.resolve_left (by decide))
      rw [if_pos h8]
      exact ⟨⟨_, rfl⟩, p, hp, q1⟩
    · rename_i hgood
      have h8 : ¬ l.length - p < 8 := fun q => hgood (Or.inr (e4.mpr q))
      rw [if_neg h8]
      obtain ⟨m2, hm, hm2, hR2⟩ := q1
      have e5 : m2 = 8 := ((pk_lEQ (a := 8) (b := m2) (by decide) (by omega)).mp hm).symm
      subst e5
      exact ⟨rfl, hm2, hR2⟩
  · refine T_tableIn (tgt := 63) (off := 62) (pc := 1) d_TaggedFormat_takePayload_1 (by decide) (by decide) rfl (by decide) ?_
    refine T_aload_n (pc := 63) d_TaggedFormat_takePayload_63 rfl ?_
    refine T_aload_n (pc := 64) d_TaggedFormat_takePayload_64 rfl ?_
    refine T_ivV (pc := 65) d_TaggedFormat_takePayload_65 sI_TaggedFormat_83 (c_Reader_takeVarint hR hb hc hp) hR rfl rfl ⟨(Nat.le_of_ble_eq_true rfl), (Nat.le_of_ble_eq_true rfl)⟩ ⟨(Nat.le_of_ble_eq_true rfl), (Nat.le_of_ble_eq_true rfl)⟩ (Nat.le_of_ble_eq_true rfl) (fun r1 h1 q1 => ?_)
    obtain ⟨o1, q1⟩ := q1
    cases hz : rv 10 0 0 (l.drop p) with
    | none =>
      rw [hz] at q1
      obtain ⟨rfl, p1, hp1, hR1⟩ := q1
      have hb1 := hb.same (o1 src (by omega)) (o1 (src + 1) (by omega))
      refine T_ivV (pc := 68) d_TaggedFormat_takePayload_68 sI_TaggedFormat_113 (c_Reader_skip hR1 hb1 hc hp1) hR1 rfl rfl ⟨(Nat.le_of_ble_eq_true rfl), (Nat.le_of_ble_eq_true rfl)⟩ ⟨(Nat.le_of_ble_eq_true rfl), (Nat.le_of_ble_eq_true rfl)⟩ (Nat.le_of_ble_eq_true rfl) (fun r2 h2 q2 => ?_)
      obtain ⟨rfl, o2, q2⟩ := q2
      have q2' : ∃ p', p' ≤ l.length ∧ Rd h2 rd src p' true := by
        split at q2
        · exact ⟨p1, hp1, q2⟩
        · obtain ⟨m, _, hm, hR2⟩ := q2
          exact ⟨_, hm, hR2⟩
      refine T_lconst (v := 0) (pc := 71) d_TaggedFormat_takePayload_71 rfl ?_
      refine T_lret (pc := 72) d_TaggedFormat_takePayload_72 rfl rfl (Nat.le_refl _) ?_
      refine ⟨fun q hq => (o2 q hq).trans (o1 q hq), ?_⟩
      have e : pay 2 (l.drop p) = none := by
        rw [pay, if_neg (by decide), if_neg (by decide), if_neg (by decide), if_pos rfl, hz]
      rw [e]
      exact ⟨⟨_, rfl⟩, q2'⟩
    | some z =>
      obtain ⟨c, m⟩ := z
      rw [hz] at q1
      obtain ⟨rfl, hR1⟩ := q1
      have hm := rv_le _ _ _ _ _ _ hz
      have hb1 := hb.same (o1 src (by omega)) (o1 (src + 1) (by omega))
      have e : pay 2 (l.drop p) = if c < 0 ∨ lN (l.length - (p + m)) < c then none else some (0, m + c.toInt.toNat) := by
        rw [pay, if_neg (by decide), if_neg (by decide), if_neg (by decide), if_pos rfl, hz, e3]
        show (if c < 0 ∨ lN (l.length - p - m) < c then none else some (0, m + c.toInt.toNat)) = _
        rw [Nat.sub_sub]
      refine T_ivV (pc := 68) d_TaggedFormat_takePayload_68 sI_TaggedFormat_113 (c_Reader_skip hR1 hb1 hc (by omega)) hR1 rfl rfl ⟨(Nat.le_of_ble_eq_true rfl), (Nat.le_of_ble_eq_true rfl)⟩ ⟨(Nat.le_of_ble_eq_true rfl), (Nat.le_of_ble_eq_true rfl)⟩ (Nat.le_of_ble_eq_true rfl) (fun r2 h2 q2 => ?_)
      obtain ⟨rfl, o2, q2⟩ := q2
      refine T_lconst (v := 0) (pc := 71) d_TaggedFormat_takePayload_71 rfl ?_
      refine T_lret (pc := 72) d_TaggedFormat_takePayload_72 rfl rfl (Nat.le_refl _) ?_
      refine ⟨fun q hq => (o2 q hq).trans (o1 q hq), ?_⟩
      rw [e]
      split at q2
      · rename_i hbad
        rw [if_pos hbad]
        exact ⟨⟨_, rfl⟩, p + m, by omega, q2⟩
      · rename_i hgood
        rw [if_neg hgood]
        obtain ⟨m2, rfl, hm2, hR2⟩ := q2
        have e5 : (lN m2).toInt.toNat = m2 := by rw [pk_lT (by omega)]; omega
        rw [e5]
        exact ⟨rfl, by omega, by rw [← Nat.add_assoc]; exact hR2⟩
  · refine T_tableIn (tgt := 73) (off := 72) (pc := 1) d_TaggedFormat_takePayload_1 (by decide) (by decide) rfl (by decide) ?_
    unfold Rd at *
    refine T_aload_n (pc := 73) d_TaggedFormat_takePayload_73 rfl ?_
    refine T_iconst (v := 1) (pc := 74) d_TaggedFormat_takePayload_74 rfl ?_
    refine T_put (pc := 75) d_TaggedFormat_takePayload_75 sF_TaggedFormat_87_Reader hR (Nat.le_of_ble_eq_true rfl) (a_fit_z (by decide)) (T_up (fun h75x1 g75x1 o75x1 => ?_))
    refine T_lconst (v := 0) (pc := 78) d_TaggedFormat_takePayload_78 rfl ?_
    refine T_lret (pc := 79) d_TaggedFormat_takePayload_79 rfl rfl (Nat.le_refl _) ?_
    refine ⟨o75x1, ?_⟩
    rw [show pay 3 (l.drop p) = none from rfl]
    exact ⟨⟨_, rfl⟩, p, hp, g75x1⟩
  · refine T_tableIn (tgt := 73) (off := 72) (pc := 1) d_TaggedFormat_takePayload_1 (by decide) (by decide) rfl (by decide) ?_
    unfold Rd at *
    refine T_aload_n (pc := 73) d_TaggedFormat_takePayload_73 rfl ?_
    refine T_iconst (v := 1) (pc := 74) d_TaggedFormat_takePayload_74 rfl ?_
    refine T_put (pc := 75) d_TaggedFormat_takePayload_75 sF_TaggedFormat_87_Reader hR (Nat.le_of_ble_eq_true rfl) (a_fit_z (by decide)) (T_up (fun h75x1 g75x1 o75x1 => ?_))
    refine T_lconst (v := 0) (pc := 78) d_TaggedFormat_takePayload_78 rfl ?_
    refine T_lret (pc := 79) d_TaggedFormat_takePayload_79 rfl rfl (Nat.le_refl _) ?_
    refine ⟨o75x1, ?_⟩
    rw [show pay 4 (l.drop p) = none from rfl]
    exact ⟨⟨_, rfl⟩, p, hp, g75x1⟩
  · refine T_tableIn (tgt := 45) (off := 44) (pc := 1) d_TaggedFormat_takePayload_1 (by decide) (by decide) rfl (by decide) ?_
    refine T_aload_n (pc := 45) d_TaggedFormat_takePayload_45 rfl ?_
    refine T_ivV (pc := 46) d_TaggedFormat_takePayload_46 sI_TaggedFormat_110 (c_Reader_takeWord hR hb hc hp) hR rfl rfl ⟨(Nat.le_of_ble_eq_true rfl), (Nat.le_of_ble_eq_true rfl)⟩ ⟨(Nat.le_of_ble_eq_true rfl), (Nat.le_of_ble_eq_true rfl)⟩ (Nat.le_of_ble_eq_true rfl) (fun r1 h1 q1 => ?_)
    obtain ⟨o1, q1⟩ := q1
    by_cases hlt : l.length < p + 4
    · rw [if_pos hlt] at q1
      obtain ⟨rfl, hR1⟩ := q1
      refine T_ivS (pc := 49) d_TaggedFormat_takePayload_49 sI_TaggedFormat_49 (c_Bytes_swapped) rfl rfl ⟨(Nat.le_of_ble_eq_true rfl), (Nat.le_of_ble_eq_true rfl)⟩ ⟨(Nat.le_of_ble_eq_true rfl), (Nat.le_of_ble_eq_true rfl)⟩ (Nat.le_of_ble_eq_true rfl) (fun r2 h2 q2 => ?_)
      obtain ⟨rfl, e2⟩ := q2
      rw [e2]
      refine T_i2l (pc := 52) d_TaggedFormat_takePayload_52 ?_
      refine T_lret (pc := 53) d_TaggedFormat_takePayload_53 rfl rfl (Nat.le_refl _) ?_
      refine ⟨o1, ?_⟩
      have e : pay 5 (l.drop p) = none := by
        rw [pay, if_neg (by decide), if_pos rfl, if_pos (by omega)]
      rw [e]
      exact ⟨⟨_, rfl⟩, p, hp, hR1⟩
    · rw [if_neg hlt, tkw (by omega)] at q1
      obtain ⟨rfl, hR1⟩ := q1
      refine T_ivS (pc := 49) d_TaggedFormat_takePayload_49 sI_TaggedFormat_49 (c_Bytes_swapped) rfl rfl ⟨(Nat.le_of_ble_eq_true rfl), (Nat.le_of_ble_eq_true rfl)⟩ ⟨(Nat.le_of_ble_eq_true rfl), (Nat.le_of_ble_eq_true rfl)⟩ (Nat.le_of_ble_eq_true rfl) (fun r2 h2 q2 => ?_)
      obtain ⟨rfl, e2⟩ := q2
      rw [e2]
      refine T_i2l (pc := 52) d_TaggedFormat_takePayload_52 ?_
      refine T_lret (pc := 53) d_TaggedFormat_takePayload_53 rfl rfl (Nat.le_refl _) ?_
      refine ⟨o1, ?_⟩
      have e : pay 5 (l.drop p) = some ((swp (wat (l.drop p) 0)).toInt64, 4) := by
        rw [pay, if_neg (by decide), if_pos rfl, if_neg (by omega)]
      rw [e]
      exact ⟨rfl, by omega, hR1⟩
  · refine T_tableOut (tgt := 73) (pc := 1) d_TaggedFormat_takePayload_1 (by decide) (by decide) ?_
    unfold Rd at *
    refine T_aload_n (pc := 73) d_TaggedFormat_takePayload_73 rfl ?_
    refine T_iconst (v := 1) (pc := 74) d_TaggedFormat_takePayload_74 rfl ?_
    refine T_put (pc := 75) d_TaggedFormat_takePayload_75 sF_TaggedFormat_87_Reader hR (Nat.le_of_ble_eq_true rfl) (a_fit_z (by decide)) (T_up (fun h75x1 g75x1 o75x1 => ?_))
    refine T_lconst (v := 0) (pc := 78) d_TaggedFormat_takePayload_78 rfl ?_
    refine T_lret (pc := 79) d_TaggedFormat_takePayload_79 rfl rfl (Nat.le_refl _) ?_
    refine ⟨o75x1, ?_⟩
    rw [show pay 6 (l.drop p) = none from rfl]
    exact ⟨⟨_, rfl⟩, p, hp, g75x1⟩
  · refine T_tableOut (tgt := 73) (pc := 1) d_TaggedFormat_takePayload_1 (by decide) (by decide) ?_
    unfold Rd at *
    refine T_aload_n (pc := 73) d_TaggedFormat_takePayload_73 rfl ?_
    refine T_iconst (v := 1) (pc := 74) d_TaggedFormat_takePayload_74 rfl ?_
    refine T_put (pc := 75) d_TaggedFormat_takePayload_75 sF_TaggedFormat_87_Reader hR (Nat.le_of_ble_eq_true rfl) (a_fit_z (by decide)) (T_up (fun h75x1 g75x1 o75x1 => ?_))
    refine T_lconst (v := 0) (pc := 78) d_TaggedFormat_takePayload_78 rfl ?_
    refine T_lret (pc := 79) d_TaggedFormat_takePayload_79 rfl rfl (Nat.le_refl _) ?_
    refine ⟨o75x1, ?_⟩
    rw [show pay 7 (l.drop p) = none from rfl]
    exact ⟨⟨_, rfl⟩, p, hp, g75x1⟩
