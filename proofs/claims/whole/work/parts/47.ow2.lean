/-! OnceWire: the facade, its calls. -/
theorem plcF_ok {wf : Bool} {ns : List Sf} {vs : List (List Int32)} {cs : List (Int32 × Int32)} {ps : List Pd} {ms : List Mg} {pr : Int32} (hok : okP cs ps) : okP (plcF wf ns vs cs ps ms pr).2.1 (plcF wf ns vs cs ps ms pr).2.2.1 := by
  unfold plcF
  split
  · exact hok
  · split
    · exact hok
    · intro m hm
      rcases List.mem_append.mp hm with z | z
      · obtain ⟨j, hj, e⟩ := hok m z
        exact ⟨j, by simp; omega, e⟩
      · rw [List.mem_singleton.mp z]
        exact ⟨cs.length, by simp, rfl⟩
theorem goF_ok {cs : List (Int32 × Int32)} : ∀ (ps : List Pd) (ms : List Mg) (k : Int32), okP cs ps → okP cs (goF ps ms k).1
  | [], _, _, h => h
  | m :: t, ms, k, h => by
    have ht : okP cs t := fun q hq => h q (List.mem_cons_of_mem _ hq)
    have hm := h m (List.mem_cons_self ..)
    unfold goF
    split
    · intro q hq
      rcases List.mem_cons.mp hq with rfl | hq
      · exact hm
      · exact goF_ok t _ _ ht q hq
    · intro q hq
      rcases List.mem_cons.mp hq with rfl | hq
      · exact hm
      · exact goF_ok t _ _ ht q hq
theorem cliG_ok {cs : List (Int32 × Int32)} {ps : List Pd} {l : List Int32} (hok : okP cs ps) : okP (cliG cs ps l).2.1 (cliG cs ps l).2.2 := by
  unfold cliG
  split
  · exact hok
  · intro m hm
    obtain ⟨j, hj, e⟩ := hok m (List.mem_of_mem_eraseIdx hm)
    exact ⟨j, by rw [List.length_set]; exact hj, e⟩
theorem ite_ok {P : Prop} [Decidable P] {A B : Cs} (a : okP A.2.1 A.2.2) (b : okP B.2.1 B.2.2) : okP (if P then A else B).2.1 (if P then A else B).2.2 := by
  split
  · exact a
  · exact b
theorem cliF_ok {cs : List (Int32 × Int32)} {ps : List Pd} {l : List Int32} (hok : okP cs ps) : okP (cliF cs ps l).2.1 (cliF cs ps l).2.2 := by
  unfold cliF
  split
  · exact hok
  · exact ite_ok hok (ite_ok hok (ite_ok hok (ite_ok hok (cliG_ok hok))))
abbrev Rs : Type := Int32 × List Kn × Nat × Int32 × Int32 × List Mg × List (Int32 × Int32) × List Pd
def rcvF (wf : Bool) (ns : List Sf) (ms : List Mg) (sl : List Kn) (old : Nat) (tot run : Int32) (cs : List (Int32 × Int32)) (ps : List Pd) (b : Bool) (l : List Int32) : Rs := if b then ((srvF wf ns sl old tot run ms l).1, (srvF wf ns sl old tot run ms l).2.1, (srvF wf ns sl old tot run ms l).2.2.1, (srvF wf ns sl old tot run ms l).2.2.2.1, (srvF wf ns sl old tot run ms l).2.2.2.2.1, (srvF wf ns sl old tot run ms l).2.2.2.2.2, cs, ps) else ((cliF cs ps l).1, sl, old, tot, run, ms, (cliF cs ps l).2.1, (cliF cs ps l).2.2)
abbrev OwR (h : aH) (x : Nat) (wf : Bool) (ns : List Sf) (vs : List (List Int32)) (db : List Int32) (R : Rs) : Prop := Ow h x wf ns vs db R.2.2.2.2.2.1 R.2.1 R.2.2.1 R.2.2.2.1 R.2.2.2.2.1 R.2.2.2.2.2.2.1 R.2.2.2.2.2.2.2
def dlvF (wf : Bool) (ns : List Sf) (ms : List Mg) (sl : List Kn) (old : Nat) (tot run : Int32) (cs : List (Int32 × Int32)) (ps : List Pd) (k : Int32) : Rs := if 0 ≤ k ∧ k < nI ms.length then rcvF wf ns (ms.eraseIdx k.toNatClampNeg) sl old tot run cs ps (ms.getD k.toNatClampNeg ([], false)).2 (ms.getD k.toNatClampNeg ([], false)).1 else (-1, sl, old, tot, run, ms, cs, ps)
set_option maxRecDepth 100000 in
set_option maxHeartbeats 4000000 in
theorem c_OW_call {n : Nat} {x : Nat} {h : aH} {wf : Bool} {ns : List Sf} {vs : List (List Int32)} {db : List Int32} {ms : List Mg} {sl : List Kn} {old : Nat} {tot run : Int32} {cs : List (Int32 × Int32)} {ps : List Pd} (hO : Ow h x wf ns vs db ms sl old tot run cs ps) {pr : Int32} : Con M_OW_call 5 0 0 n [.ref x, .int pr] h (fun r h' => r = some (.int (plcF wf ns vs cs ps ms pr).1) ∧ Ow h' x wf ns vs db (plcF wf ns vs cs ps ms pr).2.2.2 sl old tot run (plcF wf ns vs cs ps ms pr).2.1 (plcF wf ns vs cs ps ms pr).2.2.1 ∧ ∀ q, q < x ∨ x + 89 < q → h' q = h q) := by
  obtain ⟨hX, hs, hva, hb, ⟨wads, hn⟩, hF, hsv, ⟨svs, hsva⟩, ⟨cads, hc⟩, hok⟩ := id hO
  refine Con.of rfl (Nat.le_of_ble_eq_true rfl) ?_
  refine T_aload_n (pc := 0) d_OW_call_0 rfl ?_
  refine T_get (pc := 1) d_OW_call_1 sF_OW_61_OW hX rfl ?_
  refine T_iload_n (pc := 4) d_OW_call_4 rfl ?_
  refine T_aload_n (pc := 5) d_OW_call_5 rfl ?_
  refine T_get (pc := 6) d_OW_call_6 sF_OW_21_OW hX rfl ?_
  refine T_ivV (pc := 9) d_OW_call_9 sI_OW_83 (c_Client_place (pr := pr) hc hn hs hva hF (by omega) (by omega) (by omega) (by omega)) hc.obj rfl rfl ⟨(Nat.le_of_ble_eq_true rfl), (Nat.le_of_ble_eq_true rfl)⟩ ⟨(Nat.le_of_ble_eq_true rfl), (Nat.le_of_ble_eq_true rfl)⟩ (Nat.le_of_ble_eq_true rfl) (fun r1 h1 q1 => ?_)
  unfold plcQ at q1
  obtain ⟨rfl, hc1, hn1, o1⟩ := q1
  refine T_iret (pc := 12) d_OW_call_12 rfl rfl (Nat.le_refl _) ?_
  exact ⟨rfl, ⟨(o1 _ (by omega) (by omega)).trans hX, hs.same (fun q z1 z2 => o1 q (by omega) (by omega)), hva.same (fun q z1 z2 => o1 q (by omega) (by omega)), hb.same (o1 _ (by omega) (by omega)) (o1 _ (by omega) (by omega)), ⟨wads, hn1⟩, (o1 _ (by omega) (by omega)).trans hF, hsv.out (fun q z1 z2 => o1 q (by omega) (by omega)), ⟨svs, hsva.same (fun q z1 z2 => o1 q (by omega) (by omega))⟩, ⟨cads, hc1⟩, plcF_ok hok⟩, fun q z => o1 q (by omega) (by omega)⟩
set_option maxRecDepth 100000 in
set_option maxHeartbeats 4000000 in
theorem c_OW_tick {n : Nat} {x : Nat} {h : aH} {wf : Bool} {ns : List Sf} {vs : List (List Int32)} {db : List Int32} {ms : List Mg} {sl : List Kn} {old : Nat} {tot run : Int32} {cs : List (Int32 × Int32)} {ps : List Pd} (hO : Ow h x wf ns vs db ms sl old tot run cs ps) : Con M_OW_tick 4 0 0 n [.ref x] h (fun r h' => r = some (.int (goF ps ms 0).2.2) ∧ Ow h' x wf ns vs db (goF ps ms 0).2.1 sl old tot run cs (goF ps ms 0).1 ∧ ∀ q, q < x ∨ x + 89 < q → h' q = h q) := by
  obtain ⟨hX, hs, hva, hb, ⟨wads, hn⟩, hF, hsv, ⟨svs, hsva⟩, ⟨cads, hc⟩, hok⟩ := id hO
  refine Con.of rfl (Nat.le_of_ble_eq_true rfl) ?_
  refine T_aload_n (pc := 0) d_OW_tick_0 rfl ?_
  refine T_get (pc := 1) d_OW_tick_1 sF_OW_61_OW hX rfl ?_
  refine T_ivV (pc := 4) d_OW_tick_4 sI_OW_87 (c_Client_growOlder hc hn (by omega)) hc.obj rfl rfl ⟨(Nat.le_of_ble_eq_true rfl), (Nat.le_of_ble_eq_true rfl)⟩ ⟨(Nat.le_of_ble_eq_true rfl), (Nat.le_of_ble_eq_true rfl)⟩ (Nat.le_of_ble_eq_true rfl) (fun r1 h1 q1 => ?_)
  obtain ⟨rfl, hc1, hn1, o1⟩ := q1
  refine T_iret (pc := 7) d_OW_tick_7 rfl rfl (Nat.le_refl _) ?_
  exact ⟨rfl, ⟨(o1 _ (by omega) (by omega)).trans hX, hs.same (fun q z1 z2 => o1 q (by omega) (by omega)), hva.same (fun q z1 z2 => o1 q (by omega) (by omega)), hb.same (o1 _ (by omega) (by omega)) (o1 _ (by omega) (by omega)), ⟨wads, hn1⟩, (o1 _ (by omega) (by omega)).trans hF, hsv.out (fun q z1 z2 => o1 q (by omega) (by omega)), ⟨svs, hsva.same (fun q z1 z2 => o1 q (by omega) (by omega))⟩, ⟨cads, hc1⟩, goF_ok ps ms 0 hok⟩, fun q z => o1 q (by omega) (by omega)⟩
def addF (db : List Int32) (b : Int32) : Int32 × List Int32 := if b < 0 ∨ 255 < b then (0, db) else if db.length < 200 then (1, db ++ [b]) else (0, db)
set_option maxRecDepth 100000 in
set_option maxHeartbeats 4000000 in
theorem c_OW_add {n : Nat} {x : Nat} {h : aH} {wf : Bool} {ns : List Sf} {vs : List (List Int32)} {db : List Int32} {ms : List Mg} {sl : List Kn} {old : Nat} {tot run : Int32} {cs : List (Int32 × Int32)} {ps : List Pd} (hO : Ow h x wf ns vs db ms sl old tot run cs ps) {b : Int32} : Con M_OW_add 1 0 0 n [.ref x, .int b] h (fun r h' => r = some (.int (addF db b).1) ∧ Ow h' x wf ns vs (addF db b).2 ms sl old tot run cs ps ∧ ∀ q, q < x ∨ x + 89 < q → h' q = h q) := by
  obtain ⟨hX, hs, hva, hb, ⟨wads, hn⟩, hF, hsv, ⟨svs, hsva⟩, ⟨cads, hc⟩, hok⟩ := id hO
  refine Con.of rfl (Nat.le_of_ble_eq_true rfl) ?_
  refine T_iload_n (pc := 0) d_OW_add_0 rfl ?_
  refine T_if_lt (tgt := 26) (pc := 1) d_OW_add_1 (by decide) (fun q1 => ?_) (fun q1 => ?_)
  · refine T_iconst (v := 0) (pc := 26) d_OW_add_26 rfl ?_
    refine T_zret (pc := 27) d_OW_add_27 rfl (by decide) rfl (Nat.le_refl _) ?_
    rw [addF, if_pos (by first | exact Or.inl q1 | exact Or.inr q8)]
    exact ⟨rfl, hO, fun _ _ => rfl⟩
  · have qlt := q1
    refine T_iload_n (pc := 4) d_OW_add_4 rfl ?_
    refine T_sipush (v := 255) (pc := 5) d_OW_add_5 rfl ?_
    refine T_icmp_gt (tgt := 26) (pc := 8) d_OW_add_8 (by decide) (fun q8 => ?_) (fun q8 => ?_)
    · refine T_iconst (v := 0) (pc := 26) d_OW_add_26 rfl ?_
      refine T_zret (pc := 27) d_OW_add_27 rfl (by decide) rfl (Nat.le_refl _) ?_
      rw [addF, if_pos (by first | exact Or.inl q1 | exact Or.inr q8)]
      exact ⟨rfl, hO, fun _ _ => rfl⟩
    · refine T_aload_n (pc := 11) d_OW_add_11 rfl ?_
      refine T_get (pc := 12) d_OW_add_12 sF_OW_30_OW hX rfl ?_
      refine T_iload_n (pc := 15) d_OW_add_15 rfl ?_
      refine T_ivV (pc := 16) d_OW_add_16 sI_OW_115 (c_Bytes_append (x := b) hb (by decide)) hb.obj rfl rfl ⟨(Nat.le_of_ble_eq_true rfl), (Nat.le_of_ble_eq_true rfl)⟩ ⟨(Nat.le_of_ble_eq_true rfl), (Nat.le_of_ble_eq_true rfl)⟩ (Nat.le_of_ble_eq_true rfl) (fun r1 h1 q1 => ?_)
      have hA : (db.length < 200 ∧ r1 = some (.int 1) ∧ By h1 (x + 9) 200 (db ++ [b]) ∧ ∀ q, q ≠ x + 9 → q ≠ x + 9 + 1 → h1 q = h q) ∨ (¬ db.length < 200 ∧ r1 = some (.int 0) ∧ h1 = h) := by
        by_cases z : db.length < 200
        · rw [if_pos z] at q1
          exact Or.inl ⟨z, q1⟩
        · rw [if_neg z] at q1
          exact Or.inr ⟨z, q1⟩
      have hr : ¬ (b < 0 ∨ 255 < b) := fun z => z.elim qlt (fun z => absurd z q8)
      rcases hA with ⟨hl, rfl, hb1, o1⟩ | ⟨hl, rfl, rfl⟩
      · refine T_if_eq (tgt := 26) (pc := 19) d_OW_add_19 (by decide) (fun q19 => ?_) (fun q19 => ?_)
        · exact absurd q19 (by decide)
        · refine T_iconst (v := 1) (pc := 22) d_OW_add_22 rfl ?_
          refine T_goto (tgt := 27) (pc := 23) d_OW_add_23 (by decide) ?_
          refine T_zret (pc := 27) d_OW_add_27 rfl (by decide) rfl (Nat.le_refl _) ?_
          rw [addF, if_neg hr, if_pos hl]
          exact ⟨rfl, ⟨(o1 _ (by omega) (by omega)).trans hX, hs.same (fun q z1 z2 => o1 q (by omega) (by omega)), hva.same (fun q z1 z2 => o1 q (by omega) (by omega)), hb1, ⟨wads, hn.same (fun q z1 z2 => o1 q (by omega) (by omega))⟩, (o1 _ (by omega) (by omega)).trans hF, hsv.out (fun q z1 z2 => o1 q (by omega) (by omega)), ⟨svs, hsva.same (fun q z1 z2 => o1 q (by omega) (by omega))⟩, ⟨cads, hc.same (fun q z1 z2 => o1 q (by omega) (by omega))⟩, hok⟩, fun q z => o1 q (by omega) (by omega)⟩
      · refine T_if_eq (tgt := 26) (pc := 19) d_OW_add_19 (by decide) (fun q19 => ?_) (fun q19 => ?_)
        · refine T_iconst (v := 0) (pc := 26) d_OW_add_26 rfl ?_
          refine T_zret (pc := 27) d_OW_add_27 rfl (by decide) rfl (Nat.le_refl _) ?_
          rw [addF, if_neg hr, if_neg hl]
          exact ⟨rfl, hO, fun _ _ => rfl⟩
        · exact absurd rfl q19
set_option maxRecDepth 100000 in
set_option maxHeartbeats 4000000 in
theorem c_OW_size {n : Nat} {x : Nat} {h : aH} {wf : Bool} {ns : List Sf} {vs : List (List Int32)} {db : List Int32} {ms : List Mg} {sl : List Kn} {old : Nat} {tot run : Int32} {cs : List (Int32 × Int32)} {ps : List Pd} (hO : Ow h x wf ns vs db ms sl old tot run cs ps) {k : Int32} : Con M_OW_size 2 0 0 n [.ref x, .int k] h (fun r h' => r = some (.int (if 0 ≤ k ∧ k < nI ms.length then nI (ms.getD k.toNatClampNeg ([], false)).1.length else -1)) ∧ h' = h) := by
  obtain ⟨hX, hs, hva, hb, ⟨wads, hn⟩, hF, hsv, ⟨svs, hsva⟩, ⟨cads, hc⟩, hok⟩ := id hO
  refine Con.of rfl (Nat.le_of_ble_eq_true rfl) ?_
  refine T_aload_n (pc := 0) d_OW_size_0 rfl ?_
  refine T_get (pc := 1) d_OW_size_1 sF_OW_37_OW hX rfl ?_
  refine T_iload_n (pc := 4) d_OW_size_4 rfl ?_
  refine T_ivV (pc := 5) d_OW_size_5 sI_OW_91 (c_Network_has (k := k) hn) hn.obj rfl rfl ⟨(Nat.le_of_ble_eq_true rfl), (Nat.le_of_ble_eq_true rfl)⟩ ⟨(Nat.le_of_ble_eq_true rfl), (Nat.le_of_ble_eq_true rfl)⟩ (Nat.le_of_ble_eq_true rfl) (fun r1 h1 q1 => ?_)
  obtain ⟨rfl, e1⟩ := q1
  rw [e1]
  refine T_if_eq (tgt := 25) (pc := 8) d_OW_size_8 (by decide) (fun q8 => ?_) (fun q8 => ?_)
  · refine T_iconst (v := -1) (pc := 25) d_OW_size_25 rfl ?_
    refine T_iret (pc := 26) d_OW_size_26 rfl rfl (Nat.le_refl _) ?_
    first
      | (rw [if_neg (ite_z q8)]; exact ⟨rfl, rfl⟩)
      | (rw [if_pos hf, hcl, hgd]; exact ⟨rfl, rfl⟩)
  · have hf := ite_n q8
    have hn16 := hn.le
    have hwl := hn.1.1
    obtain ⟨i, hi, rfl⟩ : ∃ i : Nat, i < ms.length ∧ k = nI i := by
      rcases pk_ix k (n := ms.length) (by omega) with q | q | q
      · exact absurd hf.1 (Int32.not_le.mpr q)
      · exact absurd hf.2 (Int32.not_lt.mpr q)
      · exact q
    have hcl : (nI i).toNatClampNeg = i := nI_clamp (by omega)
    obtain ⟨m, hm⟩ : ∃ m, ms[i]? = some m := ⟨_, List.getElem?_eq_getElem hi⟩
    have hgd : ms.getD i ([], false) = m := by rw [List.getD_eq_getElem?_getD, hm]; rfl
    obtain ⟨q0, hq0⟩ : ∃ q0, wads[i]? = some q0 := ⟨_, List.getElem?_eq_getElem (by omega)⟩
    have hqr := hn.1.2.2.1 q0 (List.mem_of_getElem? hq0)
    have hbm : By h q0 156 m.1 := hn.2.2.2 i m q0 hm hq0
    refine T_aload_n (pc := 11) d_OW_size_11 rfl ?_
    refine T_get (pc := 12) d_OW_size_12 sF_OW_37_OW hX rfl ?_
    refine T_iload_n (pc := 15) d_OW_size_15 rfl ?_
    refine T_ivV (pc := 16) d_OW_size_16 sI_OW_108 (c_Network_message hn hm hq0) hn.obj rfl rfl ⟨(Nat.le_of_ble_eq_true rfl), (Nat.le_of_ble_eq_true rfl)⟩ ⟨(Nat.le_of_ble_eq_true rfl), (Nat.le_of_ble_eq_true rfl)⟩ (Nat.le_of_ble_eq_true rfl) (fun r2 h2 q2 => ?_)
    obtain ⟨rfl, e2⟩ := q2
    rw [e2]
    refine T_get (pc := 19) d_OW_size_19 sF_OW_136_Bytes hbm.obj rfl ?_
    refine T_goto (tgt := 26) (pc := 22) d_OW_size_22 (by decide) ?_
    refine T_iret (pc := 26) d_OW_size_26 rfl rfl (Nat.le_refl _) ?_
    first
      | (rw [if_neg (ite_z q8)]; exact ⟨rfl, rfl⟩)
      | (rw [if_pos hf, hcl, hgd]; exact ⟨rfl, rfl⟩)
set_option maxRecDepth 100000 in
set_option maxHeartbeats 4000000 in
theorem c_OW_byteAt {n : Nat} {x : Nat} {h : aH} {wf : Bool} {ns : List Sf} {vs : List (List Int32)} {db : List Int32} {ms : List Mg} {sl : List Kn} {old : Nat} {tot run : Int32} {cs : List (Int32 × Int32)} {ps : List Pd} (hO : Ow h x wf ns vs db ms sl old tot run cs ps) {k j : Int32} : Con M_OW_byteAt 2 0 0 n [.ref x, .int k, .int j] h (fun r h' => r = some (.int (if 0 ≤ k ∧ k < nI ms.length then (if 0 ≤ j ∧ j < nI (ms.getD k.toNatClampNeg ([], false)).1.length then (ms.getD k.toNatClampNeg ([], false)).1.getD j.toNatClampNeg 0 else -1) else -1)) ∧ h' = h) := by
  obtain ⟨hX, hs, hva, hb, ⟨wads, hn⟩, hF, hsv, ⟨svs, hsva⟩, ⟨cads, hc⟩, hok⟩ := id hO
  refine Con.of rfl (Nat.le_of_ble_eq_true rfl) ?_
  refine T_aload_n (pc := 0) d_OW_byteAt_0 rfl ?_
  refine T_get (pc := 1) d_OW_byteAt_1 sF_OW_37_OW hX rfl ?_
  refine T_iload_n (pc := 4) d_OW_byteAt_4 rfl ?_
  refine T_ivV (pc := 5) d_OW_byteAt_5 sI_OW_91 (c_Network_has (k := k) hn) hn.obj rfl rfl ⟨(Nat.le_of_ble_eq_true rfl), (Nat.le_of_ble_eq_true rfl)⟩ ⟨(Nat.le_of_ble_eq_true rfl), (Nat.le_of_ble_eq_true rfl)⟩ (Nat.le_of_ble_eq_true rfl) (fun r1 h1 q1 => ?_)
  obtain ⟨rfl, e1⟩ := q1
  rw [e1]
  refine T_if_eq (tgt := 26) (pc := 8) d_OW_byteAt_8 (by decide) (fun q8 => ?_) (fun q8 => ?_)
  · refine T_iconst (v := -1) (pc := 26) d_OW_byteAt_26 rfl ?_
    refine T_iret (pc := 27) d_OW_byteAt_27 rfl rfl (Nat.le_refl _) ?_
    first
      | (rw [if_neg (ite_z q8)]; exact ⟨rfl, rfl⟩)
      | (rw [if_pos hf, hcl, hgd]; exact ⟨rfl, rfl⟩)
  · have hf := ite_n q8
    have hn16 := hn.le
    have hwl := hn.1.1
    obtain ⟨i, hi, rfl⟩ : ∃ i : Nat, i < ms.length ∧ k = nI i := by
      rcases pk_ix k (n := ms.length) (by omega) with q | q | q
      · exact absurd hf.1 (Int32.not_le.mpr q)
      · exact absurd hf.2 (Int32.not_lt.mpr q)
      · exact q
    have hcl : (nI i).toNatClampNeg = i := nI_clamp (by omega)
    obtain ⟨m, hm⟩ : ∃ m, ms[i]? = some m := ⟨_, List.getElem?_eq_getElem hi⟩
    have hgd : ms.getD i ([], false) = m := by rw [List.getD_eq_getElem?_getD, hm]; rfl
    obtain ⟨q0, hq0⟩ : ∃ q0, wads[i]? = some q0 := ⟨_, List.getElem?_eq_getElem (by omega)⟩
    have hqr := hn.1.2.2.1 q0 (List.mem_of_getElem? hq0)
    have hbm : By h q0 156 m.1 := hn.2.2.2 i m q0 hm hq0
    refine T_aload_n (pc := 11) d_OW_byteAt_11 rfl ?_
    refine T_get (pc := 12) d_OW_byteAt_12 sF_OW_37_OW hX rfl ?_
    refine T_iload_n (pc := 15) d_OW_byteAt_15 rfl ?_
    refine T_ivV (pc := 16) d_OW_byteAt_16 sI_OW_108 (c_Network_message hn hm hq0) hn.obj rfl rfl ⟨(Nat.le_of_ble_eq_true rfl), (Nat.le_of_ble_eq_true rfl)⟩ ⟨(Nat.le_of_ble_eq_true rfl), (Nat.le_of_ble_eq_true rfl)⟩ (Nat.le_of_ble_eq_true rfl) (fun r2 h2 q2 => ?_)
    obtain ⟨rfl, e2⟩ := q2
    rw [e2]
    refine T_iload_n (pc := 19) d_OW_byteAt_19 rfl ?_
    refine T_ivV (pc := 20) d_OW_byteAt_20 sI_OW_139 (c_Bytes_at (i := j) hbm (by decide)) hbm.obj rfl rfl ⟨(Nat.le_of_ble_eq_true rfl), (Nat.le_of_ble_eq_true rfl)⟩ ⟨(Nat.le_of_ble_eq_true rfl), (Nat.le_of_ble_eq_true rfl)⟩ (Nat.le_of_ble_eq_true rfl) (fun r3 h3 q3 => ?_)
    obtain ⟨rfl, e3⟩ := q3
    rw [e3]
    refine T_goto (tgt := 27) (pc := 23) d_OW_byteAt_23 (by decide) ?_
    refine T_iret (pc := 27) d_OW_byteAt_27 rfl rfl (Nat.le_refl _) ?_
    first
      | (rw [if_neg (ite_z q8)]; exact ⟨rfl, rfl⟩)
      | (rw [if_pos hf, hcl, hgd]; exact ⟨rfl, rfl⟩)
set_option maxRecDepth 100000 in
set_option maxHeartbeats 4000000 in
theorem c_OW_lose {n : Nat} {x : Nat} {h : aH} {wf : Bool} {ns : List Sf} {vs : List (List Int32)} {db : List Int32} {ms : List Mg} {sl : List Kn} {old : Nat} {tot run : Int32} {cs : List (Int32 × Int32)} {ps : List Pd} (hO : Ow h x wf ns vs db ms sl old tot run cs ps) {k : Int32} : Con M_OW_lose 2 0 0 n [.ref x, .int k] h (fun r h' => r = some (.int (if 0 ≤ k ∧ k < nI ms.length then 1 else 0)) ∧ Ow h' x wf ns vs db (if 0 ≤ k ∧ k < nI ms.length then ms.eraseIdx k.toNatClampNeg else ms) sl old tot run cs ps ∧ ∀ q, q < x ∨ x + 89 < q → h' q = h q) := by
  obtain ⟨hX, hs, hva, hb, ⟨wads, hn⟩, hF, hsv, ⟨svs, hsva⟩, ⟨cads, hc⟩, hok⟩ := id hO
  refine Con.of rfl (Nat.le_of_ble_eq_true rfl) ?_
  refine T_aload_n (pc := 0) d_OW_lose_0 rfl ?_
  refine T_get (pc := 1) d_OW_lose_1 sF_OW_37_OW hX rfl ?_
  refine T_iload_n (pc := 4) d_OW_lose_4 rfl ?_
  refine T_ivV (pc := 5) d_OW_lose_5 sI_OW_91 (c_Network_has (k := k) hn) hn.obj rfl rfl ⟨(Nat.le_of_ble_eq_true rfl), (Nat.le_of_ble_eq_true rfl)⟩ ⟨(Nat.le_of_ble_eq_true rfl), (Nat.le_of_ble_eq_true rfl)⟩ (Nat.le_of_ble_eq_true rfl) (fun r1 h1 q1 => ?_)
  obtain ⟨rfl, e1⟩ := q1
  rw [e1]
  refine T_if_ne (tgt := 13) (pc := 8) d_OW_lose_8 (by decide) (fun q8 => ?_) (fun q8 => ?_)
  · have hf := ite_n q8
    have hn16 := hn.le
    have hwl := hn.1.1
    obtain ⟨i, hi, rfl⟩ : ∃ i : Nat, i < ms.length ∧ k = nI i := by
      rcases pk_ix k (n := ms.length) (by omega) with q | q | q
      · exact absurd hf.1 (Int32.not_le.mpr q)
      · exact absurd hf.2 (Int32.not_lt.mpr q)
      · exact q
    have hcl : (nI i).toNatClampNeg = i := nI_clamp (by omega)
    obtain ⟨m, hm⟩ : ∃ m, ms[i]? = some m := ⟨_, List.getElem?_eq_getElem hi⟩
    have hgd : ms.getD i ([], false) = m := by rw [List.getD_eq_getElem?_getD, hm]; rfl
    obtain ⟨q0, hq0⟩ : ∃ q0, wads[i]? = some q0 := ⟨_, List.getElem?_eq_getElem (by omega)⟩
    have hqr := hn.1.2.2.1 q0 (List.mem_of_getElem? hq0)
    refine T_aload_n (pc := 13) d_OW_lose_13 rfl ?_
    refine T_get (pc := 14) d_OW_lose_14 sF_OW_37_OW hX rfl ?_
    refine T_iload_n (pc := 17) d_OW_lose_17 rfl ?_
    refine T_ivV (pc := 18) d_OW_lose_18 sI_OW_95 (c_Network_take hn hm hq0) hn.obj rfl rfl ⟨(Nat.le_of_ble_eq_true rfl), (Nat.le_of_ble_eq_true rfl)⟩ ⟨(Nat.le_of_ble_eq_true rfl), (Nat.le_of_ble_eq_true rfl)⟩ (Nat.le_of_ble_eq_true rfl) (fun r3 h3 q3 => ?_)
    obtain ⟨rfl, hn3, hb3, o3⟩ := q3
    have hX3 := (o3 x (by omega)).trans hX
    refine T_pop (pc := 21) d_OW_lose_21 rfl ?_
    refine T_iconst (v := 1) (pc := 22) d_OW_lose_22 rfl ?_
    refine T_zret (pc := 23) d_OW_lose_23 rfl (by decide) rfl (Nat.le_refl _) ?_
    first
      | (rw [if_neg (ite_z (by first | exact q8 | exact Decidable.of_not_not q8)), if_neg (ite_z (by first | exact q8 | exact Decidable.of_not_not q8))]; exact ⟨rfl, hO, fun _ _ => rfl⟩)
      | (rw [if_pos hf, if_pos hf, hcl]; exact ⟨rfl, ⟨(o3 _ (by omega)).trans hX, hs.same (fun q z1 z2 => o3 q (by omega)), hva.same (fun q z1 z2 => o3 q (by omega)), hb.same (o3 _ (by omega)) (o3 _ (by omega)), ⟨_, hn3⟩, (o3 _ (by omega)).trans hF, hsv.out (fun q z1 z2 => o3 q (by omega)), ⟨svs, hsva.same (fun q z1 z2 => o3 q (by omega))⟩, ⟨cads, hc.same (fun q z1 z2 => o3 q (by omega))⟩, hok⟩, fun q z => o3 q (by omega)⟩)
  · refine T_iconst (v := 0) (pc := 11) d_OW_lose_11 rfl ?_
    refine T_zret (pc := 12) d_OW_lose_12 rfl (by decide) rfl (Nat.le_refl _) ?_
    first
      | (rw [if_neg (ite_z (by first | exact q8 | exact Decidable.of_not_not q8)), if_neg (ite_z (by first | exact q8 | exact Decidable.of_not_not q8))]; exact ⟨rfl, hO, fun _ _ => rfl⟩)
      | (rw [if_pos hf, if_pos hf, hcl]; exact ⟨rfl, ⟨(o3 _ (by omega)).trans hX, hs.same (fun q z1 z2 => o3 q (by omega)), hva.same (fun q z1 z2 => o3 q (by omega)), hb.same (o3 _ (by omega)) (o3 _ (by omega)), ⟨_, hn3⟩, (o3 _ (by omega)).trans hF, hsv.out (fun q z1 z2 => o3 q (by omega)), ⟨svs, hsva.same (fun q z1 z2 => o3 q (by omega))⟩, ⟨cads, hc.same (fun q z1 z2 => o3 q (by omega))⟩, hok⟩, fun q z => o3 q (by omega)⟩)
def cpyF (ms : List Mg) (k : Int32) : Int32 × List Mg := if (0 ≤ k ∧ k < nI ms.length) ∧ ms.length < 16 then (1, ms ++ [ms.getD k.toNatClampNeg ([], false)]) else (0, ms)
set_option maxRecDepth 100000 in
set_option maxHeartbeats 4000000 in
theorem c_OW_copy {n : Nat} {x : Nat} {h : aH} {wf : Bool} {ns : List Sf} {vs : List (List Int32)} {db : List Int32} {ms : List Mg} {sl : List Kn} {old : Nat} {tot run : Int32} {cs : List (Int32 × Int32)} {ps : List Pd} (hO : Ow h x wf ns vs db ms sl old tot run cs ps) {k : Int32} : Con M_OW_copy 3 0 0 n [.ref x, .int k] h (fun r h' => r = some (.int (cpyF ms k).1) ∧ Ow h' x wf ns vs db (cpyF ms k).2 sl old tot run cs ps ∧ ∀ q, q < x ∨ x + 89 < q → h' q = h q) := by
  obtain ⟨hX, hs, hva, hb, ⟨wads, hn⟩, hF, hsv, ⟨svs, hsva⟩, ⟨cads, hc⟩, hok⟩ := id hO
  refine Con.of rfl (Nat.le_of_ble_eq_true rfl) ?_
  refine T_aload_n (pc := 0) d_OW_copy_0 rfl ?_
  refine T_get (pc := 1) d_OW_copy_1 sF_OW_37_OW hX rfl ?_
  refine T_iload_n (pc := 4) d_OW_copy_4 rfl ?_
  refine T_ivV (pc := 5) d_OW_copy_5 sI_OW_91 (c_Network_has (k := k) hn) hn.obj rfl rfl ⟨(Nat.le_of_ble_eq_true rfl), (Nat.le_of_ble_eq_true rfl)⟩ ⟨(Nat.le_of_ble_eq_true rfl), (Nat.le_of_ble_eq_true rfl)⟩ (Nat.le_of_ble_eq_true rfl) (fun r1 h1 q1 => ?_)
  obtain ⟨rfl, e1⟩ := q1
  rw [e1]
  refine T_if_eq (tgt := 21) (pc := 8) d_OW_copy_8 (by decide) (fun q8 => ?_) (fun q8 => ?_)
  · refine T_iconst (v := 0) (pc := 21) d_OW_copy_21 rfl ?_
    refine T_zret (pc := 22) d_OW_copy_22 rfl (by decide) rfl (Nat.le_refl _) ?_
    first
      | (rw [cpyF, if_neg (fun z => ite_z q8 z.1)]; exact ⟨rfl, hO, fun _ _ => rfl⟩)
      | (rw [cpyF, if_neg (fun z => ite_n' q18 z.2)]; exact ⟨rfl, hO, fun _ _ => rfl⟩)
      | (rw [cpyF, if_pos ⟨hf, hlt⟩, hcl, hgd]; exact ⟨rfl, ⟨(o6 _ (by omega)).trans hX, hs.same (fun q z1 z2 => o6 q (by omega)), hva.same (fun q z1 z2 => o6 q (by omega)), hb.same (o6 _ (by omega)) (o6 _ (by omega)), ⟨_, hn6⟩, (o6 _ (by omega)).trans hF, hsv.out (fun q z1 z2 => o6 q (by omega)), ⟨svs, hsva.same (fun q z1 z2 => o6 q (by omega))⟩, ⟨cads, hc.same (fun q z1 z2 => o6 q (by omega))⟩, hok⟩, fun q z => o6 q (by omega)⟩)
  · refine T_aload_n (pc := 11) d_OW_copy_11 rfl ?_
    refine T_get (pc := 12) d_OW_copy_12 sF_OW_37_OW hX rfl ?_
    refine T_ivV (pc := 15) d_OW_copy_15 sI_OW_104 (c_Network_isFull hn) hn.obj rfl rfl ⟨(Nat.le_of_ble_eq_true rfl), (Nat.le_of_ble_eq_true rfl)⟩ ⟨(Nat.le_of_ble_eq_true rfl), (Nat.le_of_ble_eq_true rfl)⟩ (Nat.le_of_ble_eq_true rfl) (fun r4 h4 q4 => ?_)
    obtain ⟨rfl, e4⟩ := q4
    rw [e4]
    refine T_if_eq (tgt := 23) (pc := 18) d_OW_copy_18 (by decide) (fun q18 => ?_) (fun q18 => ?_)
    · have hf := ite_n q8
      have hn16 := hn.le
      have hwl := hn.1.1
      obtain ⟨i, hi, rfl⟩ : ∃ i : Nat, i < ms.length ∧ k = nI i := by
        rcases pk_ix k (n := ms.length) (by omega) with q | q | q
        · exact absurd hf.1 (Int32.not_le.mpr q)
        · exact absurd hf.2 (Int32.not_lt.mpr q)
        · exact q
      have hcl : (nI i).toNatClampNeg = i := nI_clamp (by omega)
      obtain ⟨m, hm⟩ : ∃ m, ms[i]? = some m := ⟨_, List.getElem?_eq_getElem hi⟩
      have hgd : ms.getD i ([], false) = m := by rw [List.getD_eq_getElem?_getD, hm]; rfl
      obtain ⟨q0, hq0⟩ : ∃ q0, wads[i]? = some q0 := ⟨_, List.getElem?_eq_getElem (by omega)⟩
      have hqr := hn.1.2.2.1 q0 (List.mem_of_getElem? hq0)
      have hbm : By h q0 156 m.1 := hn.2.2.2 i m q0 hm hq0
      refine T_aload_n (pc := 23) d_OW_copy_23 rfl ?_
      refine T_get (pc := 24) d_OW_copy_24 sF_OW_37_OW hX rfl ?_
      refine T_aload_n (pc := 27) d_OW_copy_27 rfl ?_
      refine T_get (pc := 28) d_OW_copy_28 sF_OW_37_OW hX rfl ?_
      refine T_iload_n (pc := 31) d_OW_copy_31 rfl ?_
      refine T_ivV (pc := 32) d_OW_copy_32 sI_OW_108 (c_Network_message hn hm hq0) hn.obj rfl rfl ⟨(Nat.le_of_ble_eq_true rfl), (Nat.le_of_ble_eq_true rfl)⟩ ⟨(Nat.le_of_ble_eq_true rfl), (Nat.le_of_ble_eq_true rfl)⟩ (Nat.le_of_ble_eq_true rfl) (fun r2 h2 q2 => ?_)
      obtain ⟨rfl, e2⟩ := q2
      rw [e2]
      refine T_aload_n (pc := 35) d_OW_copy_35 rfl ?_
      refine T_get (pc := 36) d_OW_copy_36 sF_OW_37_OW hX rfl ?_
      refine T_iload_n (pc := 39) d_OW_copy_39 rfl ?_
      refine T_ivV (pc := 40) d_OW_copy_40 sI_OW_92 (c_Network_isForServer hn hm) hn.obj rfl rfl ⟨(Nat.le_of_ble_eq_true rfl), (Nat.le_of_ble_eq_true rfl)⟩ ⟨(Nat.le_of_ble_eq_true rfl), (Nat.le_of_ble_eq_true rfl)⟩ (Nat.le_of_ble_eq_true rfl) (fun r5 h5 q5 => ?_)
      obtain ⟨rfl, e5⟩ := q5
      rw [e5]
      have hlt : ms.length < 16 := ite_z' q18
      refine T_ivV (pc := 43) d_OW_copy_43 sI_OW_111 (c_Network_send (b := m.2) hn hbm (by decide) hbm.le (fun _ q9 hq9 => nodup_ne hn.1.2.1 hq0 hq9 (by omega))) hn.obj rfl rfl ⟨(Nat.le_of_ble_eq_true rfl), (Nat.le_of_ble_eq_true rfl)⟩ ⟨(Nat.le_of_ble_eq_true rfl), (Nat.le_of_ble_eq_true rfl)⟩ (Nat.le_of_ble_eq_true rfl) (fun r6 h6 q6 => ?_)
      rw [if_pos hlt] at q6
      obtain ⟨rfl, hn6, o6⟩ := q6
      refine T_iconst (v := 1) (pc := 46) d_OW_copy_46 rfl ?_
      refine T_zret (pc := 47) d_OW_copy_47 rfl (by decide) rfl (Nat.le_refl _) ?_
      first
        | (rw [cpyF, if_neg (fun z => ite_z q8 z.1)]; exact ⟨rfl, hO, fun _ _ => rfl⟩)
        | (rw [cpyF, if_neg (fun z => ite_n' q18 z.2)]; exact ⟨rfl, hO, fun _ _ => rfl⟩)
        | (rw [cpyF, if_pos ⟨hf, hlt⟩, hcl, hgd]; exact ⟨rfl, ⟨(o6 _ (by omega)).trans hX, hs.same (fun q z1 z2 => o6 q (by omega)), hva.same (fun q z1 z2 => o6 q (by omega)), hb.same (o6 _ (by omega)) (o6 _ (by omega)), ⟨_, hn6⟩, (o6 _ (by omega)).trans hF, hsv.out (fun q z1 z2 => o6 q (by omega)), ⟨svs, hsva.same (fun q z1 z2 => o6 q (by omega))⟩, ⟨cads, hc.same (fun q z1 z2 => o6 q (by omega))⟩, hok⟩, fun q z => o6 q (by omega)⟩)
    · refine T_iconst (v := 0) (pc := 21) d_OW_copy_21 rfl ?_
      refine T_zret (pc := 22) d_OW_copy_22 rfl (by decide) rfl (Nat.le_refl _) ?_
      first
        | (rw [cpyF, if_neg (fun z => ite_z q8 z.1)]; exact ⟨rfl, hO, fun _ _ => rfl⟩)
        | (rw [cpyF, if_neg (fun z => ite_n' q18 z.2)]; exact ⟨rfl, hO, fun _ _ => rfl⟩)
        | (rw [cpyF, if_pos ⟨hf, hlt⟩, hcl, hgd]; exact ⟨rfl, ⟨(o6 _ (by omega)).trans hX, hs.same (fun q z1 z2 => o6 q (by omega)), hva.same (fun q z1 z2 => o6 q (by omega)), hb.same (o6 _ (by omega)) (o6 _ (by omega)), ⟨_, hn6⟩, (o6 _ (by omega)).trans hF, hsv.out (fun q z1 z2 => o6 q (by omega)), ⟨svs, hsva.same (fun q z1 z2 => o6 q (by omega))⟩, ⟨cads, hc.same (fun q z1 z2 => o6 q (by omega))⟩, hok⟩, fun q z => o6 q (by omega)⟩)
