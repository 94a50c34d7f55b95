/-! OnceWire$Bytes: the rest. -/
/-- four bytes as a word -/
def wat (l : List Int32) (i : Nat) : Int32 := (((l.getD i 0) <<< ((24 : Int32) &&& 31) ||| (l.getD (i + 1) 0) <<< ((16 : Int32) &&& 31)) ||| (l.getD (i + 2) 0) <<< ((8 : Int32) &&& 31)) ||| l.getD (i + 3) 0
/-- a word's bytes in the other order -/
def swp (w : Int32) : Int32 := ((w <<< ((24 : Int32) &&& 31) ||| (w &&& 65280) <<< ((8 : Int32) &&& 31)) ||| ((w.toUInt32 >>> (Int32.toUInt32 8 &&& Int32.toUInt32 31)).toInt32 &&& 65280)) ||| (w.toUInt32 >>> (Int32.toUInt32 24 &&& Int32.toUInt32 31)).toInt32
set_option maxRecDepth 100000 in
set_option maxHeartbeats 4000000 in
theorem c_Bytes_appendPart {n a a2 cap cap2 st ct : Nat} {h : aH} {l l2 : List Int32} (hb : By h a cap l) (hb2 : By h a2 cap2 l2) (hc : cap < 2 ^ 31) (hc2 : cap2 < 2 ^ 31) (hne : a2 ≠ a) (hr2 : st + ct ≤ l2.length) (hr : l.length + ct ≤ cap) : Con M_Bytes_appendPart 1 0 0 n [.ref a, .ref a2, .int (nI st), .int (nI ct)] h (fun r h' => r = none ∧ By h' a cap (l ++ (l2.drop st).take ct) ∧ ∀ q, q ≠ a → q ≠ a + 1 → h' q = h q) := by
  have hle := hb2.le
  refine Con.of rfl (Nat.le_of_ble_eq_true rfl) ?_
  refine T_iload_n (pc := 0) d_Bytes_appendPart_0 rfl ?_
  refine T_iload_n (pc := 1) d_Bytes_appendPart_1 rfl ?_
  refine T_iadd (pc := 2) d_Bytes_appendPart_2 ?_
  refine T_aload_n (pc := 3) d_Bytes_appendPart_3 rfl ?_
  refine T_get (pc := 4) d_Bytes_appendPart_4 sF_Bytes_15_Bytes (By.obj hb2) rfl ?_
  refine T_min (pc := 7) d_Bytes_appendPart_7 sI_Bytes_23 ⟨(Nat.le_of_ble_eq_true rfl), (Nat.le_of_ble_eq_true rfl)⟩ ⟨(Nat.le_of_ble_eq_true rfl), (Nat.le_of_ble_eq_true rfl)⟩ (Nat.le_of_ble_eq_true rfl) ?_
  refine T_istore (pc := 10) d_Bytes_appendPart_10 (Nat.le_of_ble_eq_true rfl) rfl ?_
  refine T_iload_n (pc := 12) d_Bytes_appendPart_12 rfl ?_
  refine T_iconst (v := 0) (pc := 13) d_Bytes_appendPart_13 rfl ?_
  refine T_max (pc := 14) d_Bytes_appendPart_14 sI_Bytes_29 ⟨(Nat.le_of_ble_eq_true rfl), (Nat.le_of_ble_eq_true rfl)⟩ ⟨(Nat.le_of_ble_eq_true rfl), (Nat.le_of_ble_eq_true rfl)⟩ (Nat.le_of_ble_eq_true rfl) ?_
  refine T_istore (pc := 17) d_Bytes_appendPart_17 (Nat.le_of_ble_eq_true rfl) rfl ?_
  have e1 : (if nI l2.length < nI st + nI ct then nI l2.length else nI st + nI ct) = nI (st + ct) := by
    rw [nI_add, if_neg (by rw [nI_ltI (by omega) (by omega)]; omega)]
  have e2 : (if nI st < (0 : Int32) then (0 : Int32) else nI st) = nI st := if_neg (nI_pos (by omega))
  rw [e1, e2]
  exact c_Bytes_appendPart_loop hc hc2 hne hr2 ct st h l rfl hb hb2 hr (fun h' g o => ⟨rfl, g, o⟩)
set_option maxRecDepth 100000 in
set_option maxHeartbeats 4000000 in
theorem c_Bytes_wordAt {n a cap k : Nat} {h : aH} {l : List Int32} (hb : By h a cap l) (hc : cap < 2 ^ 31) (hk : k + 4 ≤ l.length) : Con M_Bytes_wordAt 0 0 0 n [.ref a, .int (nI k)] h (fun r h' => r = some (.int (wat l k)) ∧ h' = h) := by
  obtain ⟨f, hB, hA, hl, hf⟩ := hb
  have ne : a + 1 ≠ a := by omega
  refine Con.of rfl (Nat.le_of_ble_eq_true rfl) ?_
  refine T_iload_n (pc := 0) d_Bytes_wordAt_0 rfl ?_
  refine T_if_lt (tgt := 14) (pc := 1) d_Bytes_wordAt_1 (by decide) (fun q1 => ?_) (fun q1 => ?_)
  · first | exact absurd q1 (nI_pos (by omega)) | exact absurd (by rw [show nI l.length - 4 = nI (l.length - 4) from pk_sub (b := 4) (by omega)]; exact nI_le (by omega) (by omega)) q11
  · refine T_iload_n (pc := 4) d_Bytes_wordAt_4 rfl ?_
    refine T_aload_n (pc := 5) d_Bytes_wordAt_5 rfl ?_
    refine T_get (pc := 6) d_Bytes_wordAt_6 sF_Bytes_15_Bytes hB rfl ?_
    refine T_iconst (v := 4) (pc := 9) d_Bytes_wordAt_9 rfl ?_
    refine T_isub (pc := 10) d_Bytes_wordAt_10 ?_
    refine T_icmp_le (tgt := 16) (pc := 11) d_Bytes_wordAt_11 (by decide) (fun q11 => ?_) (fun q11 => ?_)
    · refine T_aload_n (pc := 16) d_Bytes_wordAt_16 rfl ?_
      refine T_get (pc := 17) d_Bytes_wordAt_17 sF_Bytes_9_Bytes hB rfl ?_
      refine T_iload_n (pc := 20) d_Bytes_wordAt_20 rfl ?_
      refine T_iald (pc := 21) d_Bytes_wordAt_21 hA (vp_in_nI (by omega) hc) ?_
      refine T_bipush (v := 24) (pc := 22) d_Bytes_wordAt_22 rfl ?_
      refine T_ishl (pc := 24) d_Bytes_wordAt_24 ?_
      refine T_aload_n (pc := 25) d_Bytes_wordAt_25 rfl ?_
      refine T_get (pc := 26) d_Bytes_wordAt_26 sF_Bytes_9_Bytes hB rfl ?_
      refine T_iload_n (pc := 29) d_Bytes_wordAt_29 rfl ?_
      refine T_iconst (v := 1) (pc := 30) d_Bytes_wordAt_30 rfl ?_
      refine T_iadd (pc := 31) d_Bytes_wordAt_31 ?_
      refine T_iald (pc := 32) d_Bytes_wordAt_32 hA (by rw [nI_1]; exact vp_in_nI (by omega) hc) ?_
      refine T_bipush (v := 16) (pc := 33) d_Bytes_wordAt_33 rfl ?_
      refine T_ishl (pc := 35) d_Bytes_wordAt_35 ?_
      refine T_ior (pc := 36) d_Bytes_wordAt_36 ?_
      refine T_aload_n (pc := 37) d_Bytes_wordAt_37 rfl ?_
      refine T_get (pc := 38) d_Bytes_wordAt_38 sF_Bytes_9_Bytes hB rfl ?_
      refine T_iload_n (pc := 41) d_Bytes_wordAt_41 rfl ?_
      refine T_iconst (v := 2) (pc := 42) d_Bytes_wordAt_42 rfl ?_
      refine T_iadd (pc := 43) d_Bytes_wordAt_43 ?_
      refine T_iald (pc := 44) d_Bytes_wordAt_44 hA (by rw [show nI k + 2 = nI (k + 2) from nI_add k 2]; exact vp_in_nI (by omega) hc) ?_
      refine T_bipush (v := 8) (pc := 45) d_Bytes_wordAt_45 rfl ?_
      refine T_ishl (pc := 47) d_Bytes_wordAt_47 ?_
      refine T_ior (pc := 48) d_Bytes_wordAt_48 ?_
      refine T_aload_n (pc := 49) d_Bytes_wordAt_49 rfl ?_
      refine T_get (pc := 50) d_Bytes_wordAt_50 sF_Bytes_9_Bytes hB rfl ?_
      refine T_iload_n (pc := 53) d_Bytes_wordAt_53 rfl ?_
      refine T_iconst (v := 3) (pc := 54) d_Bytes_wordAt_54 rfl ?_
      refine T_iadd (pc := 55) d_Bytes_wordAt_55 ?_
      refine T_iald (pc := 56) d_Bytes_wordAt_56 hA (by rw [show nI k + 3 = nI (k + 3) from nI_add k 3]; exact vp_in_nI (by omega) hc) ?_
      refine T_ior (pc := 57) d_Bytes_wordAt_57 ?_
      refine T_iret (pc := 58) d_Bytes_wordAt_58 rfl rfl (Nat.le_refl _) ?_
      refine ⟨?_, rfl⟩
      have c0 := hf k (by omega)
      have c1 := hf (k + 1) (by omega)
      have c2 := hf (k + 2) (by omega)
      have c3 := hf (k + 3) (by omega)
      have i1 : (nI k + 1).toNatClampNeg = k + 1 := by rw [nI_1]; exact nI_clamp (by omega)
      have i2 : (nI k + 2).toNatClampNeg = k + 2 := by rw [show nI k + 2 = nI (k + 2) from nI_add k 2]; exact nI_clamp (by omega)
      have i3 : (nI k + 3).toNatClampNeg = k + 3 := by rw [show nI k + 3 = nI (k + 3) from nI_add k 3]; exact nI_clamp (by omega)
      rw [nI_clamp (by omega), i1, i2, i3]
      simp only [wat, List.getD_eq_getElem?_getD, c0, c1, c2, c3, Option.getD_some]
    · first | exact absurd q1 (nI_pos (by omega)) | exact absurd (by rw [show nI l.length - 4 = nI (l.length - 4) from pk_sub (b := 4) (by omega)]; exact nI_le (by omega) (by omega)) q11
set_option maxRecDepth 100000 in
set_option maxHeartbeats 4000000 in
theorem c_Bytes_swapped {n : Nat} {h : aH} {x : Int32} : Con M_Bytes_swapped 0 0 0 n [.int x] h (fun r h' => r = some (.int (swp x)) ∧ h' = h) := by
  refine Con.of rfl (Nat.le_of_ble_eq_true rfl) ?_
  refine T_iload_n (pc := 0) d_Bytes_swapped_0 rfl ?_
  refine T_bipush (v := 24) (pc := 1) d_Bytes_swapped_1 rfl ?_
  refine T_ishl (pc := 3) d_Bytes_swapped_3 ?_
  refine T_iload_n (pc := 4) d_Bytes_swapped_4 rfl ?_
  refine T_ldc (pc := 5) d_Bytes_swapped_5 (Ws_at (i := 5) (k := 45) rfl rfl) ?_
  refine T_iand (pc := 7) d_Bytes_swapped_7 ?_
  refine T_bipush (v := 8) (pc := 8) d_Bytes_swapped_8 rfl ?_
  refine T_ishl (pc := 10) d_Bytes_swapped_10 ?_
  refine T_ior (pc := 11) d_Bytes_swapped_11 ?_
  refine T_iload_n (pc := 12) d_Bytes_swapped_12 rfl ?_
  refine T_bipush (v := 8) (pc := 13) d_Bytes_swapped_13 rfl ?_
  refine T_iushr (pc := 15) d_Bytes_swapped_15 ?_
  refine T_ldc (pc := 16) d_Bytes_swapped_16 (Ws_at (i := 5) (k := 45) rfl rfl) ?_
  refine T_iand (pc := 18) d_Bytes_swapped_18 ?_
  refine T_ior (pc := 19) d_Bytes_swapped_19 ?_
  refine T_iload_n (pc := 20) d_Bytes_swapped_20 rfl ?_
  refine T_bipush (v := 24) (pc := 21) d_Bytes_swapped_21 rfl ?_
  refine T_iushr (pc := 23) d_Bytes_swapped_23 ?_
  refine T_ior (pc := 24) d_Bytes_swapped_24 ?_
  refine T_iret (pc := 25) d_Bytes_swapped_25 rfl rfl (Nat.le_refl _) ?_
  exact ⟨rfl, rfl⟩
