/-! OnceWire$Client: reads, settle. -/
abbrev clO (c w fm a b : Nat) : List Value := [.ref w, .ref fm, .ref (c + 1), .ref (c + 3), .ref (c + 4), .int (nI a), .ref (c + 5), .ref (c + 6), .ref (c + 7), .int (nI b)]
theorem Cl.obj {h : aH} {c w fm : Nat} {cs : List (Int32 × Int32)} {ps : List Pd} {ads : List Nat} (hv : Cl h c w fm cs ps ads) : h c = some (.inr (2, clO c w fm cs.length ps.length)) := by
  obtain ⟨_, ⟨_, _, _, _, q, _⟩, _⟩ := hv
  exact q
theorem Cl.same {h h' : aH} {c w fm : Nat} {cs : List (Int32 × Int32)} {ps : List Pd} {ads : List Nat} (hv : Cl h c w fm cs ps ads) (o : ∀ q, c ≤ q → q ≤ c + 23 → h' q = h q) : Cl h' c w fm cs ps ads := by
  obtain ⟨a, ⟨g1, g2, g3, g4, b1, b2, b3, b4, b5, b6, b7⟩, c1, c2, ⟨l, c3⟩⟩ := hv
  refine ⟨a, ⟨g1, g2, g3, g4, (o _ (by omega) (by omega)).trans b1, (o _ (by omega) (by omega)).trans b2, (o _ (by omega) (by omega)).trans b3, (o _ (by omega) (by omega)).trans b4, (o _ (by omega) (by omega)).trans b5, (o _ (by omega) (by omega)).trans b6, b7⟩, fun q hq => ?_, fun i m q hm hq => ?_, ⟨l, c3.same (o _ (by omega) (by omega)) (o _ (by omega) (by omega))⟩⟩
  · obtain ⟨l', hl'⟩ := c1 q hq
    have := a.2.2.2.2 q hq
    exact ⟨l', hl'.same (o _ (by omega) (by omega)) (o _ (by omega) (by omega))⟩
  · have := a.2.2.2.2 q (List.mem_of_getElem? hq)
    exact (c2 i m q hm hq).same (o _ (by omega) (by omega)) (o _ (by omega) (by omega))
theorem Cl.rec {h h' : aH} {c w fm : Nat} {cs : List (Int32 × Int32)} {ps : List Pd} {ads : List Nat} (hv : Cl h c w fm cs ps ads) (o : ∀ q, q ≠ c + 1 → q ≠ c + 1 + 1 → h' q = h q) (hr : ∃ l, By h' (c + 1) 200 l) : Cl h' c w fm cs ps ads := by
  obtain ⟨a, ⟨g1, g2, g3, g4, b1, b2, b3, b4, b5, b6, b7⟩, c1, c2, _⟩ := hv
  refine ⟨a, ⟨g1, g2, g3, g4, (o _ (by omega) (by omega)).trans b1, (o _ (by omega) (by omega)).trans b2, (o _ (by omega) (by omega)).trans b3, (o _ (by omega) (by omega)).trans b4, (o _ (by omega) (by omega)).trans b5, (o _ (by omega) (by omega)).trans b6, b7⟩, fun q hq => ?_, fun i m q hm hq => ?_, hr⟩
  · obtain ⟨l', hl'⟩ := c1 q hq
    have := a.2.2.2.2 q hq
    exact ⟨l', hl'.same (o _ (by omega) (by omega)) (o _ (by omega) (by omega))⟩
  · have := a.2.2.2.2 q (List.mem_of_getElem? hq)
    exact (c2 i m q hm hq).same (o _ (by omega) (by omega)) (o _ (by omega) (by omega))
set_option maxRecDepth 100000 in
set_option maxHeartbeats 4000000 in
theorem c_Client_statusOf {n c w fm : Nat} {cs : List (Int32 × Int32)} {ps : List Pd} {ads : List Nat} {h : aH} (hv : Cl h c w fm cs ps ads) {x : Int32} : Con M_Client_statusOf 0 0 0 n [.ref c, .int x] h (fun r h' => r = some (.int (if 0 ≤ x ∧ x < nI cs.length then (cs.getD x.toNatClampNeg (0, 0)).1 else -1)) ∧ h' = h) := by
  obtain ⟨⟨hc100, hp8, hal, hand, hadr⟩, ⟨gs, gr, gx, ga, hX, hGs, hGr, hGx, hGa, hA, b7, b8, b9⟩, c1, c2, c3⟩ := id hv
  refine Con.of rfl (Nat.le_of_ble_eq_true rfl) ?_
  refine T_iload_n (pc := 0) d_Client_statusOf_0 rfl ?_
  refine T_if_lt (tgt := 21) (pc := 1) d_Client_statusOf_1 (by decide) (fun q1 => ?_) (fun q1 => ?_)
  · refine T_iconst (v := -1) (pc := 21) d_Client_statusOf_21 rfl ?_
    refine T_iret (pc := 22) d_Client_statusOf_22 rfl rfl (Nat.le_refl _) ?_
    refine ⟨?_, rfl⟩
    first
      | rw [if_neg (fun q => absurd q.1 (Int32.not_le.mpr q1))]
      | rw [if_neg (fun q => absurd q.2 (Int32.not_lt.mpr q9))]
      | (rw [if_pos ⟨Int32.not_lt.mp q1, Int32.not_le.mp q9⟩, hcl, List.getD_eq_getElem?_getD, hm]
         have e7 := (b7 j m hm).1
         rw [e7]
         rfl)
  · refine T_iload_n (pc := 4) d_Client_statusOf_4 rfl ?_
    refine T_aload_n (pc := 5) d_Client_statusOf_5 rfl ?_
    refine T_get (pc := 6) d_Client_statusOf_6 sF_Client_27_Client hX rfl ?_
    refine T_icmp_ge (tgt := 21) (pc := 9) d_Client_statusOf_9 (by decide) (fun q9 => ?_) (fun q9 => ?_)
    · refine T_iconst (v := -1) (pc := 21) d_Client_statusOf_21 rfl ?_
      refine T_iret (pc := 22) d_Client_statusOf_22 rfl rfl (Nat.le_refl _) ?_
      refine ⟨?_, rfl⟩
      first
        | rw [if_neg (fun q => absurd q.1 (Int32.not_le.mpr q1))]
        | rw [if_neg (fun q => absurd q.2 (Int32.not_lt.mpr q9))]
        | (rw [if_pos ⟨Int32.not_lt.mp q1, Int32.not_le.mp q9⟩, hcl, List.getD_eq_getElem?_getD, hm]
           have e7 := (b7 j m hm).1
           rw [e7]
           rfl)
    · obtain ⟨j, hj, hxj⟩ := (pk_ix x (n := cs.length) (by omega)).resolve_left q1 |>.resolve_left q9
      have hcl : x.toNatClampNeg = j := by rw [hxj]; exact nI_clamp (by omega)
      obtain ⟨m, hm⟩ : ∃ m, cs[j]? = some m := ⟨_, List.getElem?_eq_getElem hj⟩
      refine T_aload_n (pc := 12) d_Client_statusOf_12 rfl ?_
      refine T_get (pc := 13) d_Client_statusOf_13 sF_Client_20_Client hX rfl ?_
      refine T_iload_n (pc := 16) d_Client_statusOf_16 rfl ?_
      refine T_iald (pc := 17) d_Client_statusOf_17 hGs (by rw [hxj]; exact vp_in_nI (by omega) (by decide)) ?_
      refine T_goto (tgt := 22) (pc := 18) d_Client_statusOf_18 (by decide) ?_
      refine T_iret (pc := 22) d_Client_statusOf_22 rfl rfl (Nat.le_refl _) ?_
      refine ⟨?_, rfl⟩
      first
        | rw [if_neg (fun q => absurd q.1 (Int32.not_le.mpr q1))]
        | rw [if_neg (fun q => absurd q.2 (Int32.not_lt.mpr q9))]
        | (rw [if_pos ⟨Int32.not_lt.mp q1, Int32.not_le.mp q9⟩, hcl, List.getD_eq_getElem?_getD, hm]
           have e7 := (b7 j m hm).1
           rw [e7]
           rfl)
set_option maxRecDepth 100000 in
set_option maxHeartbeats 4000000 in
theorem c_Client_resultOf {n c w fm : Nat} {cs : List (Int32 × Int32)} {ps : List Pd} {ads : List Nat} {h : aH} (hv : Cl h c w fm cs ps ads) {x : Int32} : Con M_Client_resultOf 0 0 0 n [.ref c, .int x] h (fun r h' => r = some (.int (if 0 ≤ x ∧ x < nI cs.length then (cs.getD x.toNatClampNeg (0, 0)).2 else 0)) ∧ h' = h) := by
  obtain ⟨⟨hc100, hp8, hal, hand, hadr⟩, ⟨gs, gr, gx, ga, hX, hGs, hGr, hGx, hGa, hA, b7, b8, b9⟩, c1, c2, c3⟩ := id hv
  refine Con.of rfl (Nat.le_of_ble_eq_true rfl) ?_
  refine T_iload_n (pc := 0) d_Client_resultOf_0 rfl ?_
  refine T_if_lt (tgt := 21) (pc := 1) d_Client_resultOf_1 (by decide) (fun q1 => ?_) (fun q1 => ?_)
  · refine T_iconst (v := 0) (pc := 21) d_Client_resultOf_21 rfl ?_
    refine T_iret (pc := 22) d_Client_resultOf_22 rfl rfl (Nat.le_refl _) ?_
    refine ⟨?_, rfl⟩
    first
      | rw [if_neg (fun q => absurd q.1 (Int32.not_le.mpr q1))]
      | rw [if_neg (fun q => absurd q.2 (Int32.not_lt.mpr q9))]
      | (rw [if_pos ⟨Int32.not_lt.mp q1, Int32.not_le.mp q9⟩, hcl, List.getD_eq_getElem?_getD, hm]
         have e7 := (b7 j m hm).2
         rw [e7]
         rfl)
  · refine T_iload_n (pc := 4) d_Client_resultOf_4 rfl ?_
    refine T_aload_n (pc := 5) d_Client_resultOf_5 rfl ?_
    refine T_get (pc := 6) d_Client_resultOf_6 sF_Client_27_Client hX rfl ?_
    refine T_icmp_ge (tgt := 21) (pc := 9) d_Client_resultOf_9 (by decide) (fun q9 => ?_) (fun q9 => ?_)
    · refine T_iconst (v := 0) (pc := 21) d_Client_resultOf_21 rfl ?_
      refine T_iret (pc := 22) d_Client_resultOf_22 rfl rfl (Nat.le_refl _) ?_
      refine ⟨?_, rfl⟩
      first
        | rw [if_neg (fun q => absurd q.1 (Int32.not_le.mpr q1))]
        | rw [if_neg (fun q => absurd q.2 (Int32.not_lt.mpr q9))]
        | (rw [if_pos ⟨Int32.not_lt.mp q1, Int32.not_le.mp q9⟩, hcl, List.getD_eq_getElem?_getD, hm]
           have e7 := (b7 j m hm).2
           rw [e7]
           rfl)
    · obtain ⟨j, hj, hxj⟩ := (pk_ix x (n := cs.length) (by omega)).resolve_left q1 |>.resolve_left q9
      have hcl : x.toNatClampNeg = j := by rw [hxj]; exact nI_clamp (by omega)
      obtain ⟨m, hm⟩ : ∃ m, cs[j]? = some m := ⟨_, List.getElem?_eq_getElem hj⟩
      refine T_aload_n (pc := 12) d_Client_resultOf_12 rfl ?_
      refine T_get (pc := 13) d_Client_resultOf_13 sF_Client_24_Client hX rfl ?_
      refine T_iload_n (pc := 16) d_Client_resultOf_16 rfl ?_
      refine T_iald (pc := 17) d_Client_resultOf_17 hGr (by rw [hxj]; exact vp_in_nI (by omega) (by decide)) ?_
      refine T_goto (tgt := 22) (pc := 18) d_Client_resultOf_18 (by decide) ?_
      refine T_iret (pc := 22) d_Client_resultOf_22 rfl rfl (Nat.le_refl _) ?_
      refine ⟨?_, rfl⟩
      first
        | rw [if_neg (fun q => absurd q.1 (Int32.not_le.mpr q1))]
        | rw [if_neg (fun q => absurd q.2 (Int32.not_lt.mpr q9))]
        | (rw [if_pos ⟨Int32.not_lt.mp q1, Int32.not_le.mp q9⟩, hcl, List.getD_eq_getElem?_getD, hm]
           have e7 := (b7 j m hm).2
           rw [e7]
           rfl)
def ppF (x : Int32) : List Pd → Nat → Option Nat
  | [], _ => none
  | m :: t, i => if m.1 = x then some i else ppF x t (i + 1)
set_option maxRecDepth 100000 in
set_option maxHeartbeats 4000000 in
theorem c_Client_place_loop {n c w fm : Nat} {cs : List (Int32 × Int32)} {ps : List Pd} {ads : List Nat} {h : aH} (hv : Cl h c w fm cs ps ads) {x : Int32} {Q : aQ} : ∀ (ts : List Pd) (i : Nat), ps.drop i = ts → i ≤ ps.length → Q (some (.int (oI (ppF x ts i)))) h → Tri M_Client_pendingPlaceOf (a_rm 0 0 0) (a_Z 0 0 Q) 2 [(2, .int (nI i)), (0, .ref c), (1, .int x)] [] n h 0 0 := by
  obtain ⟨⟨hc100, hp8, hal, hand, hadr⟩, ⟨gs, gr, gx, ga, hX, hGs, hGr, hGx, hGa, hA, b7, b8, b9⟩, c1, c2, c3⟩ := id hv
  intro ts
  induction ts with
  | nil =>
    intro i hts hi hQ
    have hi2 : ps.length ≤ i := List.drop_eq_nil_iff.mp hts
    refine T_iload_n (pc := 2) d_Client_pendingPlaceOf_2 rfl ?_
    refine T_aload_n (pc := 3) d_Client_pendingPlaceOf_3 rfl ?_
    refine T_get (pc := 4) d_Client_pendingPlaceOf_4 sF_Client_41_Client hX rfl ?_
    refine T_icmp_ge (tgt := 28) (pc := 7) d_Client_pendingPlaceOf_7 (by decide) (fun q7 => ?_) (fun q7 => ?_)
    · refine T_iconst (v := -1) (pc := 28) d_Client_pendingPlaceOf_28 rfl ?_
      refine T_iret (pc := 29) d_Client_pendingPlaceOf_29 rfl rfl (Nat.le_refl _) ?_
      exact hQ
    · exact absurd (nI_le hi2 (by omega)) q7
  | cons m ts ih =>
    intro i hts hi hQ
    have hi2 : i < ps.length := by
      have := congrArg List.length hts
      simp at this
      omega
    have hm : ps[i]? = some m := by
      have := congrArg (fun l => l[0]?) hts
      simpa using this
    have hm1 := (b9 i m hm).1
    have hts2 : ps.drop (i + 1) = ts := by
      rw [← List.drop_drop, hts]
      rfl
    refine T_iload_n (pc := 2) d_Client_pendingPlaceOf_2 rfl ?_
    refine T_aload_n (pc := 3) d_Client_pendingPlaceOf_3 rfl ?_
    refine T_get (pc := 4) d_Client_pendingPlaceOf_4 sF_Client_41_Client hX rfl ?_
    refine T_icmp_ge (tgt := 28) (pc := 7) d_Client_pendingPlaceOf_7 (by decide) (fun q7 => ?_) (fun q7 => ?_)
    · exact absurd q7 (nI_ge hi2 (by omega))
    · refine T_aload_n (pc := 10) d_Client_pendingPlaceOf_10 rfl ?_
      refine T_get (pc := 11) d_Client_pendingPlaceOf_11 sF_Client_31_Client hX rfl ?_
      refine T_iload_n (pc := 14) d_Client_pendingPlaceOf_14 rfl ?_
      refine T_iald (pc := 15) d_Client_pendingPlaceOf_15 hGx (vp_in_nI (by omega) (by decide)) ?_
      refine T_iload_n (pc := 16) d_Client_pendingPlaceOf_16 rfl ?_
      refine T_icmp_ne (tgt := 22) (pc := 17) d_Client_pendingPlaceOf_17 (by decide) (fun q17 => ?_) (fun q17 => ?_)
      · refine T_iinc (pc := 22) d_Client_pendingPlaceOf_22 rfl (nI_1 i) (Nat.le_of_ble_eq_true rfl) rfl ?_
        refine T_goto (tgt := 2) (pc := 25) d_Client_pendingPlaceOf_25 (by decide) ?_
        rw [nI_clamp (by omega), hm1] at q17
        rw [ppF, if_neg q17] at hQ
        exact ih (i + 1) hts2 (by omega) hQ
      · refine T_iload_n (pc := 20) d_Client_pendingPlaceOf_20 rfl ?_
        refine T_iret (pc := 21) d_Client_pendingPlaceOf_21 rfl rfl (Nat.le_refl _) ?_
        rw [nI_clamp (by omega), hm1] at q17
        rw [ppF, if_pos q17] at hQ
        exact hQ
set_option maxRecDepth 100000 in
set_option maxHeartbeats 4000000 in
theorem c_Client_pendingPlaceOf {n c w fm : Nat} {cs : List (Int32 × Int32)} {ps : List Pd} {ads : List Nat} {h : aH} (hv : Cl h c w fm cs ps ads) {x : Int32} : Con M_Client_pendingPlaceOf 0 0 0 n [.ref c, .int x] h (fun r h' => r = some (.int (oI (ppF x ps 0))) ∧ h' = h) := by
  refine Con.of rfl (Nat.le_of_ble_eq_true rfl) ?_
  refine T_iconst (v := 0) (pc := 0) d_Client_pendingPlaceOf_0 rfl ?_
  refine T_istore_n (pc := 1) d_Client_pendingPlaceOf_1 rfl (Nat.le_of_ble_eq_true rfl) rfl ?_
  exact c_Client_place_loop hv ps 0 (List.drop_zero) (Nat.zero_le _) ⟨rfl, rfl⟩
set_option maxRecDepth 100000 in
set_option maxHeartbeats 4000000 in
theorem c_Client_settle_loop {n c w fm k a e : Nat} {gx ga : Nat → Int32} {Q : aQ} {y4 y2 y3 : Int32} (he : e ≤ 7) : ∀ (t i : Nat) (h : aH), i + t = e → k ≤ i → h c = some (.inr (2, clO c w fm a e)) → h (c + 5) = some (.inl (.int, 8, .inl (shI gx k i))) → h (c + 6) = some (.inl (.int, 8, .inl (shI ga k i))) → (∀ h', h' (c + 5) = some (.inl (.int, 8, .inl (shI gx k e))) → h' (c + 6) = some (.inl (.int, 8, .inl (shI ga k e))) → (∀ q, q ≠ c + 5 → q ≠ c + 6 → h' q = h q) → Q none h') → Tri M_Client_settle (a_rm 1 0 0) (a_Z 0 0 Q) 45 [(5, .int (nI i)), (4, .int y4), (0, .ref c), (1, .int (nI k)), (2, .int y2), (3, .int y3)] [] n h 0 0 := by
  intro t
  induction t with
  | zero =>
    intro i h hit hki hX hGx hGa hQ
    have hi : i = e := by omega
    subst hi
    refine T_iload (pc := 45) d_Client_settle_45 rfl ?_
    refine T_aload_n (pc := 47) d_Client_settle_47 rfl ?_
    refine T_get (pc := 48) d_Client_settle_48 sF_Client_41_Client hX rfl ?_
    refine T_icmp_ge (tgt := 92) (pc := 51) d_Client_settle_51 (by decide) (fun q51 => ?_) (fun q51 => ?_)
    · refine T_vret (pc := 92) d_Client_settle_92 rfl rfl (Nat.le_refl _) ?_
      exact hQ h hGx hGa (fun _ _ _ => rfl)
    · exact absurd (nI_le (Nat.le_refl _) (by omega)) q51
  | succ t ih =>
    intro i h hit hki hX hGx hGa hQ
    refine T_iload (pc := 45) d_Client_settle_45 rfl ?_
    refine T_aload_n (pc := 47) d_Client_settle_47 rfl ?_
    refine T_get (pc := 48) d_Client_settle_48 sF_Client_41_Client hX rfl ?_
    refine T_icmp_ge (tgt := 92) (pc := 51) d_Client_settle_51 (by decide) (fun q51 => ?_) (fun q51 => ?_)
    · exact absurd q51 (nI_ge (by omega) (by omega))
    · refine T_aload_n (pc := 54) d_Client_settle_54 rfl ?_
      refine T_get (pc := 55) d_Client_settle_55 sF_Client_31_Client hX rfl ?_
      refine T_iload (pc := 58) d_Client_settle_58 rfl ?_
      refine T_aload_n (pc := 60) d_Client_settle_60 rfl ?_
      refine T_get (pc := 61) d_Client_settle_61 sF_Client_31_Client hX rfl ?_
      refine T_iload (pc := 64) d_Client_settle_64 rfl ?_
      refine T_iconst (v := 1) (pc := 66) d_Client_settle_66 rfl ?_
      refine T_iadd (pc := 67) d_Client_settle_67 ?_
      refine T_iald (pc := 68) d_Client_settle_68 hGx (by rw [nI_1]; exact vp_in_nI (by omega) (by decide)) ?_
      refine T_iast (pc := 69) d_Client_settle_69 (Nat.succ_ne_zero _) hGx (vp_in_nI (by omega) (by decide)) (T_up (fun h69x1 g69x1 o69x1 => ?_))
      have hX_69x1 := (o69x1 c (by omega)).trans hX
      have hGa_69x1 := (o69x1 (c + 6) (by omega)).trans hGa
      refine T_aload_n (pc := 70) d_Client_settle_70 rfl ?_
      refine T_get (pc := 71) d_Client_settle_71 sF_Client_34_Client hX_69x1 rfl ?_
      refine T_iload (pc := 74) d_Client_settle_74 rfl ?_
      refine T_aload_n (pc := 76) d_Client_settle_76 rfl ?_
      refine T_get (pc := 77) d_Client_settle_77 sF_Client_34_Client hX_69x1 rfl ?_
      refine T_iload (pc := 80) d_Client_settle_80 rfl ?_
      refine T_iconst (v := 1) (pc := 82) d_Client_settle_82 rfl ?_
      refine T_iadd (pc := 83) d_Client_settle_83 ?_
      refine T_iald (pc := 84) d_Client_settle_84 hGa_69x1 (by rw [nI_1]; exact vp_in_nI (by omega) (by decide)) ?_
      refine T_iast (pc := 85) d_Client_settle_85 (Nat.succ_ne_zero _) hGa_69x1 (vp_in_nI (by omega) (by decide)) (T_up (fun h85x2 g85x2 o85x2 => ?_))
      have hX_85x2 := (o85x2 c (by omega)).trans hX_69x1
      have g69x1_85x2 := (o85x2 (c + 5) (by omega)).trans g69x1
      refine T_iinc (pc := 86) d_Client_settle_86 rfl (nI_1 i) (Nat.le_of_ble_eq_true rfl) rfl ?_
      refine T_goto (tgt := 45) (pc := 89) d_Client_settle_89 (by decide) ?_
      have g5 : h85x2 (c + 5) = some (.inl (.int, 8, .inl (shI gx k (i + 1)))) := by
        rw [g69x1_85x2, nI_1, nI_clamp (by omega), nI_clamp (by omega), shI_at, shI_s gx hki]
      have g6 : h85x2 (c + 6) = some (.inl (.int, 8, .inl (shI ga k (i + 1)))) := by
        rw [g85x2, nI_1, nI_clamp (by omega), nI_clamp (by omega), shI_at, shI_s ga hki]
      exact ih (i + 1) _ (by omega) (by omega) hX_85x2 g5 g6 (fun h' k1 k2 k3 => hQ h' k1 k2 (fun q z1 z2 => (k3 q z1 z2).trans ((o85x2 q z2).trans (o69x1 q z1))))
set_option maxRecDepth 100000 in
set_option maxHeartbeats 4000000 in
theorem c_Client_settle {n c w fm : Nat} {cs : List (Int32 × Int32)} {ps : List Pd} {ads : List Nat} {h : aH} (hv : Cl h c w fm cs ps ads) {k j q0 : Nat} {m : Pd} {stt res : Int32} (hm : ps[k]? = some m) (hq : ads[k]? = some q0) (hmj : m.1 = nI j) (hj : j < cs.length) : Con M_Client_settle 1 0 0 n [.ref c, .int (nI k), .int stt, .int res] h (fun r h' => r = none ∧ Cl h' c w fm (cs.set j (stt, res)) (ps.eraseIdx k) (ads.eraseIdx k ++ [q0]) ∧ ∀ q, q < c ∨ c + 23 < q → h' q = h q) := by
  obtain ⟨⟨hc100, hp8, hal, hand, hadr⟩, ⟨gs, gr, gx, ga, hX, hGs, hGr, hGx, hGa, hA, b7, b8, b9⟩, c1, c2, c3⟩ := id hv
  have hk : k < ps.length := (List.getElem?_eq_some_iff.mp hm).1
  refine Con.of rfl (Nat.le_of_ble_eq_true rfl) ?_
  refine T_aload_n (pc := 0) d_Client_settle_0 rfl ?_
  refine T_get (pc := 1) d_Client_settle_1 sF_Client_31_Client hX rfl ?_
  refine T_iload_n (pc := 4) d_Client_settle_4 rfl ?_
  refine T_iald (pc := 5) d_Client_settle_5 hGx (vp_in_nI (by omega) (by decide)) ?_
  refine T_istore (pc := 6) d_Client_settle_6 (Nat.le_of_ble_eq_true rfl) rfl ?_
  refine T_aload_n (pc := 8) d_Client_settle_8 rfl ?_
  refine T_get (pc := 9) d_Client_settle_9 sF_Client_20_Client hX rfl ?_
  refine T_iload (pc := 12) d_Client_settle_12 rfl ?_
  refine T_iload_n (pc := 14) d_Client_settle_14 rfl ?_
  refine T_iast (pc := 15) d_Client_settle_15 (Nat.succ_ne_zero _) hGs (by rw [nI_clamp (by omega), (b9 k m hm).1, hmj]; exact vp_in_nI (by omega) (by decide)) (T_up (fun h15x1 g15x1 o15x1 => ?_))
  have hX_15x1 := (o15x1 c (by omega)).trans hX
  have hGr_15x1 := (o15x1 (c + 4) (by omega)).trans hGr
  have hGx_15x1 := (o15x1 (c + 5) (by omega)).trans hGx
  have hGa_15x1 := (o15x1 (c + 6) (by omega)).trans hGa
  have hA_15x1 := (o15x1 (c + 7) (by omega)).trans hA
  refine T_aload_n (pc := 16) d_Client_settle_16 rfl ?_
  refine T_get (pc := 17) d_Client_settle_17 sF_Client_24_Client hX_15x1 rfl ?_
  refine T_iload (pc := 20) d_Client_settle_20 rfl ?_
  refine T_iload_n (pc := 22) d_Client_settle_22 rfl ?_
  refine T_iast (pc := 23) d_Client_settle_23 (Nat.succ_ne_zero _) hGr_15x1 (by rw [nI_clamp (by omega), (b9 k m hm).1, hmj]; exact vp_in_nI (by omega) (by decide)) (T_up (fun h23x2 g23x2 o23x2 => ?_))
  have hX_23x2 := (o23x2 c (by omega)).trans hX_15x1
  have g15x1_23x2 := (o23x2 (c + 3) (by omega)).trans g15x1
  have hGx_23x2 := (o23x2 (c + 5) (by omega)).trans hGx_15x1
  have hGa_23x2 := (o23x2 (c + 6) (by omega)).trans hGa_15x1
  have hA_23x2 := (o23x2 (c + 7) (by omega)).trans hA_15x1
  refine T_aload_n (pc := 24) d_Client_settle_24 rfl ?_
  refine T_get (pc := 25) d_Client_settle_25 sF_Client_37_Client hX_23x2 rfl ?_
  refine T_iload_n (pc := 28) d_Client_settle_28 rfl ?_
  refine T_ivS (pc := 29) d_Client_settle_29 sI_Client_94 (c_Bytes_moveToEnd (k := k) (ads := ads) (by omega) hq (by rw [hal]; exact hA_23x2) (fun q hq' => by obtain ⟨l, hl⟩ := c1 q hq'; have hh := hadr q hq'; exact ⟨_, (o23x2 q (by omega)).trans ((o15x1 q (by omega)).trans hl.obj)⟩)) rfl rfl ⟨(Nat.le_of_ble_eq_true rfl), (Nat.le_of_ble_eq_true rfl)⟩ ⟨(Nat.le_of_ble_eq_true rfl), (Nat.le_of_ble_eq_true rfl)⟩ (Nat.le_of_ble_eq_true rfl) (fun r2 h2 q2 => ?_)
  obtain ⟨rfl, hA2, o2⟩ := q2
  rw [hal] at hA2
  have hX_2 := (o2 c (by omega)).trans hX_23x2
  have g15x1_2 := (o2 (c + 3) (by omega)).trans g15x1_23x2
  have g23x2_2 := (o2 (c + 4) (by omega)).trans g23x2
  have hGx_2 := (o2 (c + 5) (by omega)).trans hGx_23x2
  have hGa_2 := (o2 (c + 6) (by omega)).trans hGa_23x2
  refine T_aload_n (pc := 32) d_Client_settle_32 rfl ?_
  refine T_dup (pc := 33) d_Client_settle_33 rfl ?_
  refine T_get (pc := 34) d_Client_settle_34 sF_Client_41_Client hX_2 rfl ?_
  refine T_iconst (v := 1) (pc := 37) d_Client_settle_37 rfl ?_
  refine T_isub (pc := 38) d_Client_settle_38 ?_
  refine T_put (pc := 39) d_Client_settle_39 sF_Client_41_Client hX_2 (Nat.le_of_ble_eq_true rfl) (a_fit_i _) (T_up (fun h39x3 g39x3 o39x3 => ?_))
  have g15x1_39x3 := (o39x3 (c + 3) (by omega)).trans g15x1_2
  have g23x2_39x3 := (o39x3 (c + 4) (by omega)).trans g23x2_2
  have hGx_39x3 := (o39x3 (c + 5) (by omega)).trans hGx_2
  have hGa_39x3 := (o39x3 (c + 6) (by omega)).trans hGa_2
  have hA2_39x3 := (o39x3 (c + 7) (by omega)).trans hA2
  refine T_iload_n (pc := 42) d_Client_settle_42 rfl ?_
  refine T_istore (pc := 43) d_Client_settle_43 (Nat.le_of_ble_eq_true rfl) rfl ?_
  have ec : nI ps.length - 1 = nI (ps.length - 1) := pk_sub (b := 1) (by omega)
  have hX5 : h39x3 c = some (.inr (2, clO c w fm cs.length (ps.length - 1))) := by
    rw [g39x3, ec]
    rfl
  have hgs5 := g15x1_39x3
  have hgr5 := g23x2_39x3
  rw [nI_clamp (by omega), (b9 k m hm).1, hmj, nI_clamp (by omega)] at hgs5 hgr5
  refine c_Client_settle_loop (k := k) (e := ps.length - 1) (gx := gx) (ga := ga) (by omega) (ps.length - 1 - k) k h39x3 (by omega) (Nat.le_refl _) hX5 (by rw [shI_0]; exact hGx_39x3) (by rw [shI_0]; exact hGa_39x3) (fun h6 k1 k2 k3 => ?_)
  have o9 : ∀ q, q ≠ c → q ≠ c + 3 → q ≠ c + 4 → q ≠ c + 5 → q ≠ c + 6 → q ≠ c + 7 → h6 q = h q := fun q z0 z3 z4 z5 z6 z7 => (k3 q z5 z6).trans ((o39x3 q z0).trans ((o2 q z7).trans ((o23x2 q z4).trans (o15x1 q z3))))
  have hby : ∀ q l, q ∈ ads → By h q 156 l → By h6 q 156 l := fun q l hq' hbq => by
    have := hadr q hq'
    exact hbq.same (o9 q (by omega) (by omega) (by omega) (by omega) (by omega) (by omega)) (o9 (q + 1) (by omega) (by omega) (by omega) (by omega) (by omega) (by omega))
  have hin : ∀ q, q ∈ ads.eraseIdx k ++ [q0] → q ∈ ads := fun q hq' => by
    rcases List.mem_append.mp hq' with z | z
    · exact List.mem_of_mem_eraseIdx z
    · rw [List.mem_singleton.mp z]
      exact List.mem_of_getElem? hq
  have hel : (ads.eraseIdx k).length = 7 := by
    rw [List.length_eraseIdx_of_lt (by omega), hal]
  have hpl : (ps.eraseIdx k).length = ps.length - 1 := List.length_eraseIdx_of_lt hk
  refine ⟨rfl, ⟨⟨by simp; omega, by omega, by rw [List.length_append, hel]; rfl, ?_, fun q hq' => hadr q (hin q hq')⟩, ⟨_, _, _, _, ?_, (k3 _ (by omega) (by omega)).trans hgs5, (k3 _ (by omega) (by omega)).trans hgr5, k1, k2, (k3 _ (by omega) (by omega)).trans hA2_39x3, fun i m' hm' => ?_, fun i h1 h2 => ?_, fun i m' hm' => ?_⟩, fun q hq' => ?_, fun i m' q hm' hq' => ?_, ?_⟩, fun q hq' => o9 q (by omega) (by omega) (by omega) (by omega) (by omega) (by omega)⟩
  · refine List.nodup_append.mpr ⟨List.Pairwise.sublist (List.eraseIdx_sublist ads k) hand, List.pairwise_singleton _ _, fun x hx y hy e => ?_⟩
    obtain ⟨i, hik, hi⟩ := List.mem_eraseIdx_iff_getElem?.mp hx
    rw [List.mem_singleton.mp hy] at e
    exact nodup_ne hand hi hq hik e
  · rw [k3 c (by omega) (by omega), hX5, List.length_set, hpl]
  · by_cases hij : i = j
    · subst hij
      rw [List.getElem?_set_self (by omega)] at hm'
      cases hm'
      exact ⟨pk_us, pk_us⟩
    · rw [List.getElem?_set_ne (Ne.symm hij)] at hm'
      rw [pk_un hij, pk_un hij]
      exact b7 i m' hm'
  · rw [List.length_set] at h1
    rw [pk_un (by omega)]
    exact b8 i h1 h2
  · rw [List.getElem?_eraseIdx] at hm'
    unfold shI
    by_cases hi : i < k
    · rw [if_pos hi] at hm'
      rw [if_neg (by omega), if_neg (by omega)]
      exact b9 i m' hm'
    · rw [if_neg hi] at hm'
      have hl := (List.getElem?_eq_some_iff.mp hm').1
      rw [if_pos (by omega), if_pos (by omega)]
      exact b9 (i + 1) m' hm'
  · obtain ⟨l, hl⟩ := c1 q (hin q hq')
    exact ⟨l, hby q l (hin q hq') hl⟩
  · have hm2 := hm'
    rw [List.getElem?_eraseIdx] at hm'
    have hil : i < ps.length - 1 := by
      have := (List.getElem?_eq_some_iff.mp hm2).1
      omega
    rw [List.getElem?_append_left (by omega), List.getElem?_eraseIdx] at hq'
    by_cases hi : i < k
    · rw [if_pos hi] at hm' hq'
      exact hby q _ (List.mem_of_getElem? hq') (c2 i m' q hm' hq')
    · rw [if_neg hi] at hm' hq'
      exact hby q _ (List.mem_of_getElem? hq') (c2 (i + 1) m' q hm' hq')
  · obtain ⟨l, hl⟩ := c3
    exact ⟨l, hl.same (o9 _ (by omega) (by omega) (by omega) (by omega) (by omega) (by omega)) (o9 _ (by omega) (by omega) (by omega) (by omega) (by omega) (by omega))⟩
