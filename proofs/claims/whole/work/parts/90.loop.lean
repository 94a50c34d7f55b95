/-! The law: its loop, and its walk from the entry. -/
set_option maxRecDepth 100000 in
set_option maxHeartbeats 4000000 in
theorem law_sw {h : aH} {L i : Nat} {f : Nat → Int32} (hR : Rl h L f) (hi : i + 4 ≤ L) (hL : L ≤ 2049) (hK : ∀ h', Rl h' L f → Tri M_Lw_law room_1 ZL 535 [(3, .int (nI i)), (2, .ref 91), (1, .ref 1), (0, .ref 0)] [] 111 h' 111 9914) : Tri M_Lw_law room_1 ZL 36 [(3, .int (nI i)), (2, .ref 91), (1, .ref 1), (0, .ref 0)] [] 111 h 111 9914 := by
  refine T_aload_n (pc := 36) d_Lw_law_36 rfl ?_
  refine T_iload_n (pc := 37) d_Lw_law_37 rfl ?_
  refine T_iald (pc := 38) d_Lw_law_38 hR.1 (vp_in_nI (by omega) (by omega)) ?_
  refine T_bipush (v := 31) (pc := 39) d_Lw_law_39 rfl ?_
  refine T_iand (pc := 41) d_Lw_law_41 ?_
  obtain ⟨j, hj, ej⟩ := pk_andE (f (nI i).toNatClampNeg) (m := 31) 5 (by decide)
  refine T_top ej ?_
  rcases (show j = 0 ∨ j = 1 ∨ j = 2 ∨ j = 3 ∨ j = 4 ∨ j = 5 ∨ j = 6 ∨ j = 7 ∨ j = 8 ∨ j = 9 ∨ j = 10 ∨ j = 11 ∨ j = 12 ∨ j = 13 ∨ j = 14 ∨ j = 15 ∨ j = 16 ∨ 17 ≤ j by omega) with rfl | rfl | rfl | rfl | rfl | rfl | rfl | rfl | rfl | rfl | rfl | rfl | rfl | rfl | rfl | rfl | rfl | hj17
  · refine T_tableIn (tgt := 124) (pc := 42) d_Lw_law_42 (by decide) (by decide) (off := 82) (by decide) (by decide) ?_
    exact law_field hR hi hL hK
  · refine T_tableIn (tgt := 183) (pc := 42) d_Lw_law_42 (by decide) (by decide) (off := 141) (by decide) (by decide) ?_
    exact law_put hR hi hL hK
  · refine T_tableIn (tgt := 216) (pc := 42) d_Lw_law_42 (by decide) (by decide) (off := 174) (by decide) (by decide) ?_
    exact law_reset hR hi hL hK
  · refine T_tableIn (tgt := 227) (pc := 42) d_Lw_law_42 (by decide) (by decide) (off := 185) (by decide) (by decide) ?_
    exact law_call hR hi hL hK
  · refine T_tableIn (tgt := 250) (pc := 42) d_Lw_law_42 (by decide) (by decide) (off := 208) (by decide) (by decide) ?_
    exact law_tick hR hi hL hK
  · refine T_tableIn (tgt := 263) (pc := 42) d_Lw_law_42 (by decide) (by decide) (off := 221) (by decide) (by decide) ?_
    exact law_deliver hR hi hL hK
  · refine T_tableIn (tgt := 286) (pc := 42) d_Lw_law_42 (by decide) (by decide) (off := 244) (by decide) (by decide) ?_
    exact law_lose hR hi hL hK
  · refine T_tableIn (tgt := 309) (pc := 42) d_Lw_law_42 (by decide) (by decide) (off := 267) (by decide) (by decide) ?_
    exact law_copy hR hi hL hK
  · refine T_tableIn (tgt := 332) (pc := 42) d_Lw_law_42 (by decide) (by decide) (off := 290) (by decide) (by decide) ?_
    exact law_add hR hi hL hK
  · refine T_tableIn (tgt := 355) (pc := 42) d_Lw_law_42 (by decide) (by decide) (off := 313) (by decide) (by decide) ?_
    exact law_hand hR hi hL hK
  · refine T_tableIn (tgt := 394) (pc := 42) d_Lw_law_42 (by decide) (by decide) (off := 352) (by decide) (by decide) ?_
    exact law_total hR hi hL hK
  · refine T_tableIn (tgt := 407) (pc := 42) d_Lw_law_42 (by decide) (by decide) (off := 365) (by decide) (by decide) ?_
    exact law_runs hR hi hL hK
  · refine T_tableIn (tgt := 420) (pc := 42) d_Lw_law_42 (by decide) (by decide) (off := 378) (by decide) (by decide) ?_
    exact law_status hR hi hL hK
  · refine T_tableIn (tgt := 443) (pc := 42) d_Lw_law_42 (by decide) (by decide) (off := 401) (by decide) (by decide) ?_
    exact law_result hR hi hL hK
  · refine T_tableIn (tgt := 466) (pc := 42) d_Lw_law_42 (by decide) (by decide) (off := 424) (by decide) (by decide) ?_
    exact law_flight hR hi hL hK
  · refine T_tableIn (tgt := 479) (pc := 42) d_Lw_law_42 (by decide) (by decide) (off := 437) (by decide) (by decide) ?_
    exact law_size hR hi hL hK
  · refine T_tableIn (tgt := 502) (pc := 42) d_Lw_law_42 (by decide) (by decide) (off := 460) (by decide) (by decide) ?_
    exact law_byteAt hR hi hL hK
  · refine T_tableOut (tgt := 535) (pc := 42) d_Lw_law_42 (Or.inr (by rw [nI_toInt (by omega)]; omega)) (by decide) ?_
    exact hK h hR
set_option maxRecDepth 100000 in
set_option maxHeartbeats 4000000 in
theorem law_loop {L : Nat} {f : Nat → Int32} (hL : L ≤ 2049) : ∀ (k i : Nat) (h : aH), L - i ≤ k → i ≤ L + 4 → Rl h L f → Tri M_Lw_law room_1 ZL 28 [(3, .int (nI i)), (2, .ref 91), (1, .ref 1), (0, .ref 0)] [] 111 h 111 9914 := by
  intro k
  induction k with
  | zero =>
    intro i h hk hi hR
    refine T_iload_n (pc := 28) d_Lw_law_28 rfl ?_
    refine T_aload_n (pc := 29) d_Lw_law_29 rfl ?_
    refine T_alen (pc := 30) d_Lw_law_30 hR.1 (Or.inl rfl) ?_
    refine T_iconst (v := 4) (pc := 31) d_Lw_law_31 rfl ?_
    refine T_isub (pc := 32) d_Lw_law_32 ?_
    refine T_icmp_gt (tgt := 541) (pc := 33) d_Lw_law_33 (by decide) (fun q33 => ?_) (fun q33 => ?_)
    · refine T_iconst (v := 1) (pc := 541) d_Lw_law_541 rfl ?_
      exact T_lend (pc := 542) d_Lw_law_542 (by decide) (by decide)
    · exact absurd ((nlt_sub (a := L) (b := 4) (c := i) (by omega) (by decide) (by omega)).mpr (by omega)) q33
  | succ k ih =>
    intro i h hk hi hR
    refine T_iload_n (pc := 28) d_Lw_law_28 rfl ?_
    refine T_aload_n (pc := 29) d_Lw_law_29 rfl ?_
    refine T_alen (pc := 30) d_Lw_law_30 hR.1 (Or.inl rfl) ?_
    refine T_iconst (v := 4) (pc := 31) d_Lw_law_31 rfl ?_
    refine T_isub (pc := 32) d_Lw_law_32 ?_
    refine T_icmp_gt (tgt := 541) (pc := 33) d_Lw_law_33 (by decide) (fun q33 => ?_) (fun q33 => ?_)
    · refine T_iconst (v := 1) (pc := 541) d_Lw_law_541 rfl ?_
      exact T_lend (pc := 542) d_Lw_law_542 (by decide) (by decide)
    · have hi4 : i + 4 ≤ L := by
        have := mt (nlt_sub (a := L) (b := 4) (c := i) (by omega) (by decide) (by omega)).mpr q33
        omega
      refine law_sw hR hi4 hL (fun h' hR' => ?_)
      refine T_iinc (pc := 535) d_Lw_law_535 rfl (show nI i + 4 = nI (i + 4) from nI_add i 4) (Nat.le_of_ble_eq_true rfl) rfl ?_
      refine T_goto (tgt := 28) (pc := 538) d_Lw_law_538 (by decide) ?_
      exact ih (i + 4) h' (by omega) (by omega) hR'
set_option maxRecDepth 100000 in
set_option maxHeartbeats 4000000 in
theorem law_all {L : Nat} {f : Nat → Int32} (hL : L ≤ 2049) : Tri M_Lw_law room_1 ZL 0 [(0, .ref 0)] [] 0 (fun q => if q = 0 then some (.inl (.int, L, .inl f)) else none) 0 0 := by
  refine T_new (pc := 0) d_Lw_law_0 sN_Lw_7 (Nat.le_of_ble_eq_true rfl) (Nat.le_of_ble_eq_true rfl) (T_up (fun h1 g1 o1 => ?_))
  have hS1 : h1 0 = some (.inl (.int, L, .inl f)) := (o1 0 (by decide)).trans (if_pos rfl)
  refine T_dup (pc := 3) d_Lw_law_3 rfl ?_
  refine T_aload_n (pc := 4) d_Lw_law_4 rfl ?_
  refine T_iconst (v := 0) (pc := 5) d_Lw_law_5 rfl ?_
  refine T_ivS (pc := 6) d_Lw_law_6 sI_Lw_9 (c_Lw_cell hS1 hL) rfl rfl ⟨(Nat.le_of_ble_eq_true rfl), (Nat.le_of_ble_eq_true rfl)⟩ ⟨(Nat.le_of_ble_eq_true rfl), (Nat.le_of_ble_eq_true rfl)⟩ (Nat.le_of_ble_eq_true rfl) (fun r2 h2 q2 => ?_)
  obtain ⟨rfl, e2⟩ := q2
  rw [e2]
  refine T_ivI (pc := 9) d_Lw_law_9 sI_Lw_15 (c_OW_init (x := 1) g1) rfl rfl ⟨(Nat.le_of_ble_eq_true rfl), (Nat.le_of_ble_eq_true rfl)⟩ ⟨(Nat.le_of_ble_eq_true rfl), (Nat.le_of_ble_eq_true rfl)⟩ (Nat.le_of_ble_eq_true rfl) (fun r3 h3 q3 => ?_)
  obtain ⟨rfl, O3, f3⟩ := q3
  have hS3 : h3 0 = some (.inl (.int, L, .inl f)) := (f3 0 (by decide)).trans hS1
  refine T_astore_n (pc := 12) d_Lw_law_12 rfl (Nat.le_of_ble_eq_true rfl) rfl ?_
  refine T_new (pc := 13) d_Lw_law_13 sN_Lw_18 (Nat.le_of_ble_eq_true rfl) (Nat.le_of_ble_eq_true rfl) (T_up (fun h4 g4 o4 => ?_))
  have hS4 : h4 0 = some (.inl (.int, L, .inl f)) := (o4 0 (by decide)).trans hS3
  have O4 := Ow.same (h' := h4) O3 (fun q z1 z2 => o4 q (fun z => by have : q = 91 := z; omega))
  refine T_dup (pc := 16) d_Lw_law_16 rfl ?_
  refine T_aload_n (pc := 17) d_Lw_law_17 rfl ?_
  refine T_iconst (v := 0) (pc := 18) d_Lw_law_18 rfl ?_
  refine T_ivS (pc := 19) d_Lw_law_19 sI_Lw_9 (c_Lw_cell hS4 hL) rfl rfl ⟨(Nat.le_of_ble_eq_true rfl), (Nat.le_of_ble_eq_true rfl)⟩ ⟨(Nat.le_of_ble_eq_true rfl), (Nat.le_of_ble_eq_true rfl)⟩ (Nat.le_of_ble_eq_true rfl) (fun r5 h5 q5 => ?_)
  obtain ⟨rfl, e5⟩ := q5
  rw [e5]
  refine T_ivI (pc := 22) d_Lw_law_22 sI_Lw_20 (c_Mo_init (m := 91) g4) rfl rfl ⟨(Nat.le_of_ble_eq_true rfl), (Nat.le_of_ble_eq_true rfl)⟩ ⟨(Nat.le_of_ble_eq_true rfl), (Nat.le_of_ble_eq_true rfl)⟩ (Nat.le_of_ble_eq_true rfl) (fun r6 h6 q6 => ?_)
  obtain ⟨rfl, M6, f6⟩ := q6
  have hS6 : h6 0 = some (.inl (.int, L, .inl f)) := (f6 0 (by decide)).trans hS4
  have O6 := Ow.same (h' := h6) O4 (fun q z1 z2 => f6 q (by omega))
  refine T_astore_n (pc := 25) d_Lw_law_25 rfl (Nat.le_of_ble_eq_true rfl) rfl ?_
  refine T_iconst (v := 1) (pc := 26) d_Lw_law_26 rfl ?_
  refine T_istore_n (pc := 27) d_Lw_law_27 rfl (Nat.le_of_ble_eq_true rfl) rfl ?_
  exact law_loop hL L 1 h6 (by omega) (by omega) ⟨hS6, _, _, _, _, _, _, _, _, _, _, _, _, O6, M6, ⟨rfl, List.nodup_nil, by decide, by decide, fun _ => rfl⟩, List.nodup_nil, fun i t w ht => (by cases ht), byt_nil, fun g hg => (by cases hg), fun g hg => (by cases hg)⟩
/-- from the entry, for every script of at most 2049 ints, the law comes to its end with true -/
theorem whole_start {p : Program} {e : Env} {s : State} {m : MethodId} {below : List Frame} {meth : Method} {c : Code} (l : Launch) {b L : Nat} {xs : Nat → Int32} (hL : L ≤ 2049) (C0 : lw_At p s m meth c b L xs) : W p l e room_1 s m #[Value.ref b] below meth c s.heap [] 0 0 (lw_Z below #[Value.ref b] s) (entryFrame m ([Value.ref b] : List Value).toArray 4) := law_start l C0 (law_all hL)
