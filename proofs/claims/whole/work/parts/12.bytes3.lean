/-! OnceWire$Bytes: made, copied, read, moved. -/
set_option maxRecDepth 100000 in
set_option maxHeartbeats 4000000 in
theorem c_Bytes_init {a cap : Nat} {h : aH} (hB : h a = some (.inr (1, [.null, .int 0]))) (hc : cap ≤ 100000) : Con M_Bytes_init 1 1 cap a [.ref a, .int (nI cap)] h (fun r h' => r = none ∧ By h' a cap [] ∧ ∀ q, q ≠ a → q ≠ a + 1 → h' q = h q) := by
  have ne : a + 1 ≠ a := by omega
  refine Con.of rfl (Nat.le_of_ble_eq_true rfl) ?_
  refine T_aload_n (pc := 0) d_Bytes_init_0 rfl ?_
  refine T_objInit (pc := 1) d_Bytes_init_1 sI_Bytes_3 ⟨(Nat.le_of_ble_eq_true rfl), (Nat.le_of_ble_eq_true rfl)⟩ (Nat.le_of_ble_eq_true rfl) ?_
  refine T_aload_n (pc := 4) d_Bytes_init_4 rfl ?_
  refine T_iload_n (pc := 5) d_Bytes_init_5 rfl ?_
  refine T_newi (pc := 6) d_Bytes_init_6 (Ws_at (i := 5) (k := 30) rfl rfl) (nI_pos (by omega)) (nI_clamp (by omega)) hc (Nat.le_of_ble_eq_true rfl) (by show 0 + cap ≤ cap; omega) (T_up (fun h6x1 g6x1 o6x1 => ?_))
  have hB_6x1 := (o6x1 a (Ne.symm ne)).trans hB
  refine T_putF (pc := 8) d_Bytes_init_8 sFF_Bytes_9_Bytes rfl hB_6x1 (Nat.le_of_ble_eq_true rfl) (a_fit_a _ _) (T_up (fun h8x2 g8x2 o8x2 => ?_))
  have g6x1_8x2 := (o8x2 (a + 1) ne).trans g6x1
  refine T_aload_n (pc := 11) d_Bytes_init_11 rfl ?_
  refine T_iconst (v := 0) (pc := 12) d_Bytes_init_12 rfl ?_
  refine T_put (pc := 13) d_Bytes_init_13 sF_Bytes_15_Bytes g8x2 (Nat.le_of_ble_eq_true rfl) (a_fit_i _) (T_up (fun h13x3 g13x3 o13x3 => ?_))
  have g6x1_13x3 := (o13x3 (a + 1) ne).trans g6x1_8x2
  refine T_vret (pc := 16) d_Bytes_init_16 rfl rfl (by omega) ?_
  exact ⟨rfl, ⟨_, g13x3, g6x1_13x3, Nat.zero_le _, fun i hi => absurd hi (Nat.not_lt_zero i)⟩, fun q h1 h2 => (o13x3 q h1).trans ((o8x2 q h1).trans (o6x1 q h2))⟩
set_option maxRecDepth 100000 in
set_option maxHeartbeats 4000000 in
theorem c_Bytes_at {n a cap : Nat} {h : aH} {i : Int32} {l : List Int32} (hb : By h a cap l) (hc : cap < 2 ^ 31) : Con M_Bytes_at 0 0 0 n [.ref a, .int i] h (fun r h' => r = some (.int (if 0 ≤ i ∧ i < nI l.length then l.getD i.toNatClampNeg 0 else -1)) ∧ h' = h) := by
  obtain ⟨f, hB, hA, hl, hf⟩ := hb
  refine Con.of rfl (Nat.le_of_ble_eq_true rfl) ?_
  refine T_iload_n (pc := 0) d_Bytes_at_0 rfl ?_
  refine T_if_lt (tgt := 21) (pc := 1) d_Bytes_at_1 (by decide) (fun q1 => ?_) (fun q1 => ?_)
  · refine T_iconst (v := -1) (pc := 21) d_Bytes_at_21 rfl ?_
    refine T_iret (pc := 22) d_Bytes_at_22 rfl rfl (Nat.le_refl _) ?_
    refine ⟨?_, rfl⟩
    first
      | rw [if_neg (fun q => absurd q.1 (Int32.not_le.mpr q1))]
      | rw [if_neg (fun q => absurd q.2 (Int32.not_lt.mpr q9))]
      | (rw [if_pos ⟨Int32.not_lt.mp q1, Int32.not_le.mp q9⟩, List.getD_eq_getElem?_getD, hf _ hlt]; rfl)
  · refine T_iload_n (pc := 4) d_Bytes_at_4 rfl ?_
    refine T_aload_n (pc := 5) d_Bytes_at_5 rfl ?_
    refine T_get (pc := 6) d_Bytes_at_6 sF_Bytes_15_Bytes hB rfl ?_
    refine T_icmp_ge (tgt := 21) (pc := 9) d_Bytes_at_9 (by decide) (fun q9 => ?_) (fun q9 => ?_)
    · refine T_iconst (v := -1) (pc := 21) d_Bytes_at_21 rfl ?_
      refine T_iret (pc := 22) d_Bytes_at_22 rfl rfl (Nat.le_refl _) ?_
      refine ⟨?_, rfl⟩
      first
        | rw [if_neg (fun q => absurd q.1 (Int32.not_le.mpr q1))]
        | rw [if_neg (fun q => absurd q.2 (Int32.not_lt.mpr q9))]
        | (rw [if_pos ⟨Int32.not_lt.mp q1, Int32.not_le.mp q9⟩, List.getD_eq_getElem?_getD, hf _ hlt]; rfl)
    · have hlt : i.toNatClampNeg < l.length := by
        obtain ⟨j, hj, rfl⟩ := (pk_ix i (n := l.length) (by omega)).resolve_left q1 |>.resolve_left q9
        rw [nI_clamp (by omega)]
        exact hj
      refine T_aload_n (pc := 12) d_Bytes_at_12 rfl ?_
      refine T_get (pc := 13) d_Bytes_at_13 sF_Bytes_9_Bytes hB rfl ?_
      refine T_iload_n (pc := 16) d_Bytes_at_16 rfl ?_
      refine T_iald (pc := 17) d_Bytes_at_17 hA (fun q => q.elim q1 (fun q => absurd q (by omega))) ?_
      refine T_goto (tgt := 22) (pc := 18) d_Bytes_at_18 (by decide) ?_
      refine T_iret (pc := 22) d_Bytes_at_22 rfl rfl (Nat.le_refl _) ?_
      refine ⟨?_, rfl⟩
      first
        | rw [if_neg (fun q => absurd q.1 (Int32.not_le.mpr q1))]
        | rw [if_neg (fun q => absurd q.2 (Int32.not_lt.mpr q9))]
        | (rw [if_pos ⟨Int32.not_lt.mp q1, Int32.not_le.mp q9⟩, List.getD_eq_getElem?_getD, hf _ hlt]; rfl)
set_option maxRecDepth 100000 in
set_option maxHeartbeats 4000000 in
theorem c_Bytes_become {n a a2 cap cap2 : Nat} {h : aH} {l l2 : List Int32} (hb : By h a cap l) (hb2 : By h a2 cap2 l2) (hc : cap < 2 ^ 31) (hc2 : cap2 < 2 ^ 31) (hne : a2 ≠ a) (hr : l2.length ≤ cap) : Con M_Bytes_become 1 0 0 n [.ref a, .ref a2] h (fun r h' => r = none ∧ By h' a cap l2 ∧ ∀ q, q ≠ a → q ≠ a + 1 → h' q = h q) := by
  have ne : a + 1 ≠ a := by omega
  have n1 := hb.apart hb2 hne
  have hle := hb2.le
  obtain ⟨f, hB, hA, hl, hf⟩ := hb
  obtain ⟨f2, hB2, hA2, hl2, hf2⟩ := hb2
  refine Con.of rfl (Nat.le_of_ble_eq_true rfl) ?_
  refine T_aload_n (pc := 0) d_Bytes_become_0 rfl ?_
  refine T_aload_n (pc := 1) d_Bytes_become_1 rfl ?_
  refine T_get (pc := 2) d_Bytes_become_2 sF_Bytes_15_Bytes hB2 rfl ?_
  refine T_aload_n (pc := 5) d_Bytes_become_5 rfl ?_
  refine T_get (pc := 6) d_Bytes_become_6 sF_Bytes_9_Bytes hB rfl ?_
  refine T_alen (pc := 9) d_Bytes_become_9 hA (Or.inl rfl) ?_
  refine T_min (pc := 10) d_Bytes_become_10 sI_Bytes_23 ⟨(Nat.le_of_ble_eq_true rfl), (Nat.le_of_ble_eq_true rfl)⟩ ⟨(Nat.le_of_ble_eq_true rfl), (Nat.le_of_ble_eq_true rfl)⟩ (Nat.le_of_ble_eq_true rfl) ?_
  rw [if_neg (show ¬ nI cap < nI l2.length from nI_nlt hr (by omega))]
  refine T_put (pc := 13) d_Bytes_become_13 sF_Bytes_15_Bytes hB (Nat.le_of_ble_eq_true rfl) (a_fit_i _) (T_up (fun h13x1 g13x1 o13x1 => ?_))
  have hA_13x1 := (o13x1 (a + 1) ne).trans hA
  have hB2_13x1 := (o13x1 a2 hne).trans hB2
  have hA2_13x1 := (o13x1 (a2 + 1) n1.2.1).trans hA2
  refine T_aload_n (pc := 16) d_Bytes_become_16 rfl ?_
  refine T_get (pc := 17) d_Bytes_become_17 sF_Bytes_9_Bytes hB2_13x1 rfl ?_
  refine T_iconst (v := 0) (pc := 20) d_Bytes_become_20 rfl ?_
  refine T_aload_n (pc := 21) d_Bytes_become_21 rfl ?_
  refine T_get (pc := 22) d_Bytes_become_22 sF_Bytes_9_Bytes g13x1 rfl ?_
  refine T_iconst (v := 0) (pc := 25) d_Bytes_become_25 rfl ?_
  refine T_aload_n (pc := 26) d_Bytes_become_26 rfl ?_
  refine T_get (pc := 27) d_Bytes_become_27 sF_Bytes_15_Bytes g13x1 rfl ?_
  refine T_copy (pc := 30) d_Bytes_become_30 sI_Bytes_32 (Nat.succ_ne_zero _) (Nat.succ_ne_zero _) hA2_13x1 hA_13x1 (by decide) (by decide) (nI_pos (by omega)) (by rw [nI_clamp (by omega)]; show 0 + _ ≤ _; omega) (by rw [nI_clamp (by omega)]; show 0 + _ ≤ _; omega) ⟨(Nat.le_of_ble_eq_true rfl), (Nat.le_of_ble_eq_true rfl)⟩ (Nat.le_of_ble_eq_true rfl) (T_up (fun h3 g3 o3 => ?_))
  have hB3 := (o3 a (Ne.symm ne)).trans g13x1
  refine T_vret (pc := 33) d_Bytes_become_33 rfl rfl (Nat.le_refl _) ?_
  refine ⟨rfl, ⟨_, hB3, g3, hr, fun i hi => ?_⟩, fun q h1 h2 => (o3 q h2).trans (o13x1 q h1)⟩
  have e0 : (0 : Int32).toNatClampNeg = 0 := rfl
  rw [nI_clamp (by omega), e0, sb_cpy0 hi]
  exact hf2 i hi
