/-! OnceWire: deliver, hand. -/
theorem bI_z {b : Bool} (q : bI b = 0) : b = false := by
  cases b with
  | false => rfl
  | true => exact absurd q (by decide)
theorem bI_n {b : Bool} (q : ¬ bI b = 0) : b = true := by
  cases b with
  | true => rfl
  | false => exact absurd rfl q
set_option maxRecDepth 100000 in
set_option maxHeartbeats 4000000 in
theorem c_OW_deliver {n : Nat} {x : Nat} {h : aH} {wf : Bool} {ns : List Sf} {vs : List (List Int32)} {db : List Int32} {ms : List Mg} {sl : List Kn} {old : Nat} {tot run : Int32} {cs : List (Int32 × Int32)} {ps : List Pd} (hO : Ow h x wf ns vs db ms sl old tot run cs ps) {k : Int32} : Con M_OW_deliver 6 0 0 n [.ref x, .int k] h (fun r h' => r = some (.int (dlvF wf ns ms sl old tot run cs ps k).1) ∧ OwR h' x wf ns vs db (dlvF wf ns ms sl old tot run cs ps k) ∧ ∀ q, q < x ∨ x + 89 < q → h' q = h q) := by
  obtain ⟨hX, hs, hva, hb, ⟨wads, hn⟩, hF, hsv, ⟨svs, hsva⟩, ⟨cads, hc⟩, hok⟩ := id hO
  refine Con.of rfl (Nat.le_of_ble_eq_true rfl) ?_
  refine T_aload_n (pc := 0) d_OW_deliver_0 rfl ?_
  refine T_get (pc := 1) d_OW_deliver_1 sF_OW_37_OW hX rfl ?_
  refine T_iload_n (pc := 4) d_OW_deliver_4 rfl ?_
  refine T_ivV (pc := 5) d_OW_deliver_5 sI_OW_91 (c_Network_has (k := k) hn) hn.obj rfl rfl ⟨(Nat.le_of_ble_eq_true rfl), (Nat.le_of_ble_eq_true rfl)⟩ ⟨(Nat.le_of_ble_eq_true rfl), (Nat.le_of_ble_eq_true rfl)⟩ (Nat.le_of_ble_eq_true rfl) (fun r1 h1 q1 => ?_)
  obtain ⟨rfl, e1⟩ := q1
  rw [e1]
  refine T_if_ne (tgt := 13) (pc := 8) d_OW_deliver_8 (by decide) (fun q8 => ?_) (fun q8 => ?_)
  · have hf := ite_n q8
    have hn16 := hn.le
    have hwl := hn.1.1
    obtain ⟨i, hi, rfl⟩ : ∃ i : Nat, i < ms.length ∧ k = nI i := by
      rcases pk_ix k (n := ms.length) (by omega) with q | q | q
      · exact absurd hf.1 (Int32.not_le.mpr q)
      · exact absurd hf.2 (Int32.not_lt.mpr q)
      · exact q
    have hcl : (nI i).toNatClampNeg = i := nI_clamp (by omega)
    obtain ⟨m, hm⟩ : ∃ m, ms[i]? = some m := ⟨_, List.getElem?_eq_getElem hi⟩
    have hgd : ms.getD i ([], false) = m := by rw [List.getD_eq_getElem?_getD, hm]; rfl
    obtain ⟨q0, hq0⟩ : ∃ q0, wads[i]? = some q0 := ⟨_, List.getElem?_eq_getElem (by omega)⟩
    have hqr := hn.1.2.2.1 q0 (List.mem_of_getElem? hq0)
    refine T_aload_n (pc := 13) d_OW_deliver_13 rfl ?_
    refine T_get (pc := 14) d_OW_deliver_14 sF_OW_37_OW hX rfl ?_
    refine T_iload_n (pc := 17) d_OW_deliver_17 rfl ?_
    refine T_ivV (pc := 18) d_OW_deliver_18 sI_OW_92 (c_Network_isForServer hn hm) hn.obj rfl rfl ⟨(Nat.le_of_ble_eq_true rfl), (Nat.le_of_ble_eq_true rfl)⟩ ⟨(Nat.le_of_ble_eq_true rfl), (Nat.le_of_ble_eq_true rfl)⟩ (Nat.le_of_ble_eq_true rfl) (fun r5 h5 q5 => ?_)
    obtain ⟨rfl, e5⟩ := q5
    rw [e5]
    refine T_istore_n (pc := 21) d_OW_deliver_21 rfl (Nat.le_of_ble_eq_true rfl) rfl ?_
    refine T_aload_n (pc := 22) d_OW_deliver_22 rfl ?_
    refine T_get (pc := 23) d_OW_deliver_23 sF_OW_37_OW hX rfl ?_
    refine T_iload_n (pc := 26) d_OW_deliver_26 rfl ?_
    refine T_ivV (pc := 27) d_OW_deliver_27 sI_OW_95 (c_Network_take hn hm hq0) hn.obj rfl rfl ⟨(Nat.le_of_ble_eq_true rfl), (Nat.le_of_ble_eq_true rfl)⟩ ⟨(Nat.le_of_ble_eq_true rfl), (Nat.le_of_ble_eq_true rfl)⟩ (Nat.le_of_ble_eq_true rfl) (fun r3 h3 q3 => ?_)
    obtain ⟨rfl, hn3, hb3, o3⟩ := q3
    have hX3 := (o3 x (by omega)).trans hX
    refine T_astore_n (pc := 30) d_OW_deliver_30 rfl (Nat.le_of_ble_eq_true rfl) rfl ?_
    refine T_iload_n (pc := 31) d_OW_deliver_31 rfl ?_
    refine T_if_eq (tgt := 46) (pc := 32) d_OW_deliver_32 (by decide) (fun q32 => ?_) (fun q32 => ?_)
    · refine T_aload_n (pc := 46) d_OW_deliver_46 rfl ?_
      refine T_get (pc := 47) d_OW_deliver_47 sF_OW_61_OW hX3 rfl ?_
      refine T_aload_n (pc := 50) d_OW_deliver_50 rfl ?_
      have hb2 := bI_z q32
      have hc3 := hc.same (h' := h3) (fun q z1 z2 => o3 q (by omega))
      refine T_ivV (pc := 51) d_OW_deliver_51 sI_OW_103 (c_Client_receive hc3 hok hb3 (by decide) (by omega) (Nat.le_trans hb3.le (by decide))) hc3.obj rfl rfl ⟨(Nat.le_of_ble_eq_true rfl), (Nat.le_of_ble_eq_true rfl)⟩ ⟨(Nat.le_of_ble_eq_true rfl), (Nat.le_of_ble_eq_true rfl)⟩ (Nat.le_of_ble_eq_true rfl) (fun r7 h7 q7 => ?_)
      unfold cliQ at q7
      obtain ⟨rfl, ⟨cads7, hc7⟩, o7⟩ := q7
      have oC : ∀ q, q < x + 11 ∨ x + 11 + 36 < q → q < x + 66 ∨ x + 66 + 23 < q → h7 q = h q := fun q z1 z2 => (o7 q z2).trans (o3 q z1)
      have hR : dlvF wf ns ms sl old tot run cs ps (nI i) = rcvF wf ns (ms.eraseIdx i) sl old tot run cs ps false m.1 := by rw [dlvF, if_pos hf, hcl, hgd, hb2]
      refine T_iret (pc := 54) d_OW_deliver_54 rfl rfl (Nat.le_refl _) ?_
      rw [hR]
      exact ⟨rfl, ⟨(oC _ (by omega) (by omega)).trans hX, hs.same (fun q z1 z2 => oC q (by omega) (by omega)), hva.same (fun q z1 z2 => oC q (by omega) (by omega)), hb.same (oC _ (by omega) (by omega)) (oC _ (by omega) (by omega)), ⟨_, hn3.same (fun q z1 z2 => o7 q (by omega))⟩, (oC _ (by omega) (by omega)).trans hF, hsv.out (fun q z1 z2 => oC q (by omega) (by omega)), ⟨svs, hsva.same (fun q z1 z2 => oC q (by omega) (by omega))⟩, ⟨_, hc7⟩, cliF_ok hok⟩, fun q z => oC q (by omega) (by omega)⟩
    · refine T_aload_n (pc := 35) d_OW_deliver_35 rfl ?_
      refine T_get (pc := 36) d_OW_deliver_36 sF_OW_52_OW hX3 rfl ?_
      refine T_aload_n (pc := 39) d_OW_deliver_39 rfl ?_
      have hb2 := bI_n q32
      have hsv3 := hsv.out (h' := h3) (fun q z1 z2 => o3 q (by omega))
      have hs3 := hs.same (h' := h3) (fun q z1 z2 => o3 q (by omega))
      have hsva3 := hsva.same (h' := h3) (fun q z1 z2 => o3 q (by omega))
      have hF3 : Fo h3 (x + 48) (x + 1) wf := (o3 _ (by omega)).trans hF
      refine T_ivV (pc := 40) d_OW_deliver_40 sI_OW_99 (c_Server_receive hsv3 hn3 hs3 hsva3 hF3 (by omega) (by omega) (by omega) hb3 (by decide) (by omega) (Nat.le_trans hb3.le (by decide))) hsv3.obj rfl rfl ⟨(Nat.le_of_ble_eq_true rfl), (Nat.le_of_ble_eq_true rfl)⟩ ⟨(Nat.le_of_ble_eq_true rfl), (Nat.le_of_ble_eq_true rfl)⟩ (Nat.le_of_ble_eq_true rfl) (fun r7 h7 q7 => ?_)
      unfold srvQ at q7
      obtain ⟨rfl, hsv7, hn7, ⟨svs7, hsva7⟩, o7⟩ := q7
      have oC : ∀ q, q < x + 11 ∨ x + 11 + 36 < q → q < x + 49 ∨ x + 49 + 16 < q → h7 q = h q := fun q z1 z2 => (o7 q z1 z2).trans (o3 q z1)
      have hR : dlvF wf ns ms sl old tot run cs ps (nI i) = rcvF wf ns (ms.eraseIdx i) sl old tot run cs ps true m.1 := by rw [dlvF, if_pos hf, hcl, hgd, hb2]
      refine T_goto (tgt := 54) (pc := 43) d_OW_deliver_43 (by decide) ?_
      refine T_iret (pc := 54) d_OW_deliver_54 rfl rfl (Nat.le_refl _) ?_
      rw [hR]
      exact ⟨rfl, ⟨(oC _ (by omega) (by omega)).trans hX, hs.same (fun q z1 z2 => oC q (by omega) (by omega)), hva.same (fun q z1 z2 => oC q (by omega) (by omega)), hb.same (oC _ (by omega) (by omega)) (oC _ (by omega) (by omega)), ⟨_, hn7⟩, (oC _ (by omega) (by omega)).trans hF, hsv7, ⟨_, hsva7⟩, ⟨cads, hc.same (fun q z1 z2 => oC q (by omega) (by omega))⟩, hok⟩, fun q z => oC q (by omega) (by omega)⟩
  · refine T_iconst (v := -1) (pc := 11) d_OW_deliver_11 rfl ?_
    refine T_iret (pc := 12) d_OW_deliver_12 rfl rfl (Nat.le_refl _) ?_
    rw [dlvF, if_neg (ite_z (by first | exact q8 | exact Decidable.of_not_not q8))]
    exact ⟨rfl, hO, fun _ _ => rfl⟩
set_option maxRecDepth 100000 in
set_option maxHeartbeats 4000000 in
theorem c_OW_hand {n : Nat} {x : Nat} {h : aH} {wf : Bool} {ns : List Sf} {vs : List (List Int32)} {db : List Int32} {ms : List Mg} {sl : List Kn} {old : Nat} {tot run : Int32} {cs : List (Int32 × Int32)} {ps : List Pd} (hO : Ow h x wf ns vs db ms sl old tot run cs ps) {b : Bool} : Con M_OW_hand 6 0 0 n [.ref x, .int (bI b)] h (fun r h' => r = some (.int (rcvF wf ns ms sl old tot run cs ps b db).1) ∧ OwR h' x wf ns vs [] (rcvF wf ns ms sl old tot run cs ps b db) ∧ ∀ q, q < x ∨ x + 89 < q → h' q = h q) := by
  obtain ⟨hX, hs, hva, hb, ⟨wads, hn⟩, hF, hsv, ⟨svs, hsva⟩, ⟨cads, hc⟩, hok⟩ := id hO
  refine Con.of rfl (Nat.le_of_ble_eq_true rfl) ?_
  refine T_iload_n (pc := 0) d_OW_hand_0 rfl ?_
  refine T_if_eq (tgt := 18) (pc := 1) d_OW_hand_1 (by decide) (fun q1 => ?_) (fun q1 => ?_)
  · refine T_aload_n (pc := 18) d_OW_hand_18 rfl ?_
    refine T_get (pc := 19) d_OW_hand_19 sF_OW_61_OW hX rfl ?_
    refine T_aload_n (pc := 22) d_OW_hand_22 rfl ?_
    refine T_get (pc := 23) d_OW_hand_23 sF_OW_30_OW hX rfl ?_
    refine T_ivV (pc := 26) d_OW_hand_26 sI_OW_103 (c_Client_receive hc hok hb (by decide) (by omega) (Nat.le_trans hb.le (by decide))) hc.obj rfl rfl ⟨(Nat.le_of_ble_eq_true rfl), (Nat.le_of_ble_eq_true rfl)⟩ ⟨(Nat.le_of_ble_eq_true rfl), (Nat.le_of_ble_eq_true rfl)⟩ (Nat.le_of_ble_eq_true rfl) (fun r7 h7 q7 => ?_)
    have hbb := bI_z q1
    unfold cliQ at q7
    obtain ⟨rfl, ⟨cads7, hc7⟩, o7⟩ := q7
    have hb7 := hb.same (o7 (x + 9) (by omega)) (o7 (x + 9 + 1) (by omega))
    have hX7 := (o7 x (by omega)).trans hX
    refine T_istore_n (pc := 29) d_OW_hand_29 rfl (Nat.le_of_ble_eq_true rfl) rfl ?_
    refine T_aload_n (pc := 30) d_OW_hand_30 rfl ?_
    refine T_get (pc := 31) d_OW_hand_31 sF_OW_30_OW hX7 rfl ?_
    refine T_ivV (pc := 34) d_OW_hand_34 sI_OW_118 (c_Bytes_clear hb7) hb7.obj rfl rfl ⟨(Nat.le_of_ble_eq_true rfl), (Nat.le_of_ble_eq_true rfl)⟩ ⟨(Nat.le_of_ble_eq_true rfl), (Nat.le_of_ble_eq_true rfl)⟩ (Nat.le_of_ble_eq_true rfl) (fun r8 h8 q8 => ?_)
    obtain ⟨rfl, hb8, o8⟩ := q8
    have oC : ∀ q, q ≠ x + 9 → q < x + 66 ∨ x + 66 + 23 < q → h8 q = h q := fun q z0 z2 => (o8 q z0).trans (o7 q z2)
    have hR : rcvF wf ns ms sl old tot run cs ps b db = rcvF wf ns ms sl old tot run cs ps false db := by rw [hbb]
    refine T_iload_n (pc := 37) d_OW_hand_37 rfl ?_
    refine T_iret (pc := 38) d_OW_hand_38 rfl rfl (Nat.le_refl _) ?_
    rw [hR]
    exact ⟨rfl, ⟨(oC _ (by omega) (by omega)).trans hX, hs.same (fun q z1 z2 => oC q (by omega) (by omega)), hva.same (fun q z1 z2 => oC q (by omega) (by omega)), hb8, ⟨wads, hn.same (fun q z1 z2 => oC q (by omega) (by omega))⟩, (oC _ (by omega) (by omega)).trans hF, hsv.out (fun q z1 z2 => oC q (by omega) (by omega)), ⟨svs, hsva.same (fun q z1 z2 => oC q (by omega) (by omega))⟩, ⟨_, hc7.same (fun q z1 z2 => o8 q (by omega))⟩, cliF_ok hok⟩, fun q z => oC q (by omega) (by omega)⟩
  · refine T_aload_n (pc := 4) d_OW_hand_4 rfl ?_
    refine T_get (pc := 5) d_OW_hand_5 sF_OW_52_OW hX rfl ?_
    refine T_aload_n (pc := 8) d_OW_hand_8 rfl ?_
    refine T_get (pc := 9) d_OW_hand_9 sF_OW_30_OW hX rfl ?_
    have hbb := bI_n q1
    refine T_ivV (pc := 12) d_OW_hand_12 sI_OW_99 (c_Server_receive hsv hn hs hsva hF (by omega) (by omega) (by omega) hb (by decide) (by omega) (Nat.le_trans hb.le (by decide))) hsv.obj rfl rfl ⟨(Nat.le_of_ble_eq_true rfl), (Nat.le_of_ble_eq_true rfl)⟩ ⟨(Nat.le_of_ble_eq_true rfl), (Nat.le_of_ble_eq_true rfl)⟩ (Nat.le_of_ble_eq_true rfl) (fun r7 h7 q7 => ?_)
    unfold srvQ at q7
    obtain ⟨rfl, hsv7, hn7, ⟨svs7, hsva7⟩, o7⟩ := q7
    have hb7 := hb.same (o7 (x + 9) (by omega) (by omega)) (o7 (x + 9 + 1) (by omega) (by omega))
    have hX7 := (o7 x (by omega) (by omega)).trans hX
    refine T_goto (tgt := 29) (pc := 15) d_OW_hand_15 (by decide) ?_
    refine T_istore_n (pc := 29) d_OW_hand_29 rfl (Nat.le_of_ble_eq_true rfl) rfl ?_
    refine T_aload_n (pc := 30) d_OW_hand_30 rfl ?_
    refine T_get (pc := 31) d_OW_hand_31 sF_OW_30_OW hX7 rfl ?_
    refine T_ivV (pc := 34) d_OW_hand_34 sI_OW_118 (c_Bytes_clear hb7) hb7.obj rfl rfl ⟨(Nat.le_of_ble_eq_true rfl), (Nat.le_of_ble_eq_true rfl)⟩ ⟨(Nat.le_of_ble_eq_true rfl), (Nat.le_of_ble_eq_true rfl)⟩ (Nat.le_of_ble_eq_true rfl) (fun r8 h8 q8 => ?_)
    obtain ⟨rfl, hb8, o8⟩ := q8
    have oC : ∀ q, q ≠ x + 9 → q < x + 11 ∨ x + 11 + 36 < q → q < x + 49 ∨ x + 49 + 16 < q → h8 q = h q := fun q z0 z1 z2 => (o8 q z0).trans (o7 q z1 z2)
    have hR : rcvF wf ns ms sl old tot run cs ps b db = rcvF wf ns ms sl old tot run cs ps true db := by rw [hbb]
    refine T_iload_n (pc := 37) d_OW_hand_37 rfl ?_
    refine T_iret (pc := 38) d_OW_hand_38 rfl rfl (Nat.le_refl _) ?_
    rw [hR]
    exact ⟨rfl, ⟨(oC _ (by omega) (by omega) (by omega)).trans hX, hs.same (fun q z1 z2 => oC q (by omega) (by omega) (by omega)), hva.same (fun q z1 z2 => oC q (by omega) (by omega) (by omega)), hb8, ⟨_, hn7.same (fun q z1 z2 => o8 q (by omega))⟩, (oC _ (by omega) (by omega) (by omega)).trans hF, hsv7.out (fun q z1 z2 => o8 q (by omega)), ⟨_, hsva7.same (fun q z1 z2 => o8 q (by omega))⟩, ⟨cads, hc.same (fun q z1 z2 => oC q (by omega) (by omega) (by omega))⟩, hok⟩, fun q z => oC q (by omega) (by omega) (by omega)⟩
