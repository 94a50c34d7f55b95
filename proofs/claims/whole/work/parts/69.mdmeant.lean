/-! OnceWireModel.meant. -/
theorem low32 (v : Int64) : ∃ N, N < 2 ^ 32 ∧ v &&& 4294967295 = lN N ∧ v.toInt32 = nI N := by
  obtain ⟨M, hM, rfl⟩ := wb_of v
  refine ⟨M % 2 ^ 32, Nat.mod_lt _ (by decide), wb_mask (k := 32) hM (by decide), ?_⟩
  rw [lN_i]
  apply Int32.toBitVec_inj.mp
  show BitVec.ofNat 32 M = BitVec.ofNat 32 (M % 2 ^ 32)
  apply BitVec.eq_of_toNat_eq
  rw [BitVec.toNat_ofNat, BitVec.toNat_ofNat, Nat.mod_mod]
theorem low32_half {N : Nat} (h : N < 2 ^ 32) : ((nI N).toUInt32 >>> (Int32.toUInt32 1 &&& Int32.toUInt32 31)).toInt32 = nI (N / 2) := pk_ushrN (n := N) h 1 1 (by decide)
theorem low32_one {N : Nat} (h : N < 2 ^ 32) : nI N &&& 1 = nI (N % 2) := pk_andN h 1 (by decide)
set_option maxRecDepth 100000 in
set_option maxHeartbeats 4000000 in
theorem c_Md_meant {n m : Nat} {h : aH} {σ : Nat → Int32} {ν : Int64} {α : Nat → Nat → Int32} {k : Nat} (hM : Md h m σ ν α) (hk : k ≤ 3) : Con M_Md_meant 0 0 0 n [.ref m, .int (nI k)] h (fun r h' => r = some (.int (iop k ν)) ∧ h' = h) := by
  obtain ⟨N, hN, eN, eI⟩ := low32 ν
  refine Con.of rfl (Nat.le_of_ble_eq_true rfl) ?_
  refine T_aload_n (pc := 0) d_Md_meant_0 rfl ?_
  refine T_get (pc := 1) d_Md_meant_1 sF_Md_137_Md hM.1 rfl ?_
  refine T_ldc2 (pc := 4) d_Md_meant_4 (Ws_at (i := 9) (k := 7) rfl rfl) ?_
  refine T_land (pc := 7) d_Md_meant_7 ?_
  refine T_topL (eN) ?_
  refine T_lstore_n (pc := 8) d_Md_meant_8 rfl (Nat.le_of_ble_eq_true rfl) rfl ?_
  refine T_iload_n (pc := 9) d_Md_meant_9 rfl ?_
  refine T_iconst (v := 3) (pc := 10) d_Md_meant_10 rfl ?_
  refine T_icmp_ne (tgt := 29) (pc := 11) d_Md_meant_11 (by decide) (fun q11 => ?_) (fun q11 => ?_)
  · refine T_iload_n (pc := 29) d_Md_meant_29 rfl ?_
    refine T_iconst (v := 1) (pc := 30) d_Md_meant_30 rfl ?_
    refine T_icmp_ne (tgt := 63) (pc := 31) d_Md_meant_31 (by decide) (fun q31 => ?_) (fun q31 => ?_)
    · refine T_lload_n (pc := 63) d_Md_meant_63 rfl ?_
      refine T_l2i (pc := 64) d_Md_meant_64 ?_
      refine T_iret (pc := 65) d_Md_meant_65 rfl rfl (Nat.le_refl _) ?_
      refine ⟨?_, rfl⟩
      unfold iop
      have c3 : ∀ z : nI k = 3, k = 3 := fun z => (nI_eq (a := k) (b := 3) (by omega) (by decide)).mp z
      have c1 : ∀ z : nI k = 1, k = 1 := fun z => (nI_eq (a := k) (b := 1) (by omega) (by decide)).mp z
      first
        | (rw [if_neg (by have := c3 q11; omega), if_pos (c3 q11), if_pos ((lg_cmp_eq ν 0).mp q20)])
        | (rw [if_neg (by have := c3 q11; omega), if_pos (c3 q11), if_neg (fun z => q20 ((lg_cmp_eq ν 0).mpr z))])
        | (rw [if_pos (c1 q31), eI, low32_one hN, low32_half hN, if_pos (by have := (pk_lEQ (a := N % 2) (b := 0) (by omega) (by decide)).mp ((lg_cmp_eq _ _).mp q41); rw [this]; rfl), lN_i])
        | (rw [if_pos (c1 q31), eI, low32_one hN, low32_half hN, if_neg (fun z => q41 ((lg_cmp_eq _ _).mpr (by have := (nI_eq (a := N % 2) (b := 0) (by omega) (by decide)).mp z; rw [this]; rfl)))]
           have e9 : (-(lN (N / 2)) - 1).toInt32 = -nI (N / 2) - 1 := by rw [Int64.toInt32_sub, Int64.toInt32_neg, lN_i]; rfl
           rw [e9])
        | (rw [if_neg (fun z => q31 (by rw [z]; rfl)), if_neg (fun z => q11 (by rw [z]; rfl)), eI, lN_i])
    · refine T_lload_n (pc := 34) d_Md_meant_34 rfl ?_
      refine T_ldc2 (pc := 35) d_Md_meant_35 (Ws_at (i := 8) (k := 55) rfl rfl) ?_
      refine T_lrem (pc := 38) d_Md_meant_38 (by decide) ?_
      refine T_topL (show lN N - lN N / 2 * 2 = lN (N % 2) from pk_lRem (b := 2) (by omega) (by decide) (by decide)) ?_
      refine T_lconst (v := 0) (pc := 39) d_Md_meant_39 rfl ?_
      refine T_lcmp (pc := 40) d_Md_meant_40 ?_
      refine T_if_ne (tgt := 53) (pc := 41) d_Md_meant_41 (by decide) (fun q41 => ?_) (fun q41 => ?_)
      · refine T_lload_n (pc := 53) d_Md_meant_53 rfl ?_
        refine T_ldc2 (pc := 54) d_Md_meant_54 (Ws_at (i := 8) (k := 55) rfl rfl) ?_
        refine T_ldiv (pc := 57) d_Md_meant_57 (by decide) ?_
        refine T_topL (show lN N / 2 = lN (N / 2) from pk_lDiv (b := 2) (by omega) (by decide) (by decide)) ?_
        refine T_lneg (pc := 58) d_Md_meant_58 ?_
        refine T_lconst (v := 1) (pc := 59) d_Md_meant_59 rfl ?_
        refine T_lsub (pc := 60) d_Md_meant_60 ?_
        refine T_l2i (pc := 61) d_Md_meant_61 ?_
        refine T_iret (pc := 62) d_Md_meant_62 rfl rfl (Nat.le_refl _) ?_
        refine ⟨?_, rfl⟩
        unfold iop
        have c3 : ∀ z : nI k = 3, k = 3 := fun z => (nI_eq (a := k) (b := 3) (by omega) (by decide)).mp z
        have c1 : ∀ z : nI k = 1, k = 1 := fun z => (nI_eq (a := k) (b := 1) (by omega) (by decide)).mp z
        first
          | (rw [if_neg (by have := c3 q11; omega), if_pos (c3 q11), if_pos ((lg_cmp_eq ν 0).mp q20)])
          | (rw [if_neg (by have := c3 q11; omega), if_pos (c3 q11), if_neg (fun z => q20 ((lg_cmp_eq ν 0).mpr z))])
          | (rw [if_pos (c1 q31), eI, low32_one hN, low32_half hN, if_pos (by have := (pk_lEQ (a := N % 2) (b := 0) (by omega) (by decide)).mp ((lg_cmp_eq _ _).mp q41); rw [this]; rfl), lN_i])
          | (rw [if_pos (c1 q31), eI, low32_one hN, low32_half hN, if_neg (fun z => q41 ((lg_cmp_eq _ _).mpr (by have := (nI_eq (a := N % 2) (b := 0) (by omega) (by decide)).mp z; rw [this]; rfl)))]
             have e9 : (-(lN (N / 2)) - 1).toInt32 = -nI (N / 2) - 1 := by rw [Int64.toInt32_sub, Int64.toInt32_neg, lN_i]; rfl
             rw [e9])
          | (rw [if_neg (fun z => q31 (by rw [z]; rfl)), if_neg (fun z => q11 (by rw [z]; rfl)), eI, lN_i])
      · refine T_lload_n (pc := 44) d_Md_meant_44 rfl ?_
        refine T_ldc2 (pc := 45) d_Md_meant_45 (Ws_at (i := 8) (k := 55) rfl rfl) ?_
        refine T_ldiv (pc := 48) d_Md_meant_48 (by decide) ?_
        refine T_topL (show lN N / 2 = lN (N / 2) from pk_lDiv (b := 2) (by omega) (by decide) (by decide)) ?_
        refine T_l2i (pc := 49) d_Md_meant_49 ?_
        refine T_goto (tgt := 62) (pc := 50) d_Md_meant_50 (by decide) ?_
        refine T_iret (pc := 62) d_Md_meant_62 rfl rfl (Nat.le_refl _) ?_
        refine ⟨?_, rfl⟩
        unfold iop
        have c3 : ∀ z : nI k = 3, k = 3 := fun z => (nI_eq (a := k) (b := 3) (by omega) (by decide)).mp z
        have c1 : ∀ z : nI k = 1, k = 1 := fun z => (nI_eq (a := k) (b := 1) (by omega) (by decide)).mp z
        first
          | (rw [if_neg (by have := c3 q11; omega), if_pos (c3 q11), if_pos ((lg_cmp_eq ν 0).mp q20)])
          | (rw [if_neg (by have := c3 q11; omega), if_pos (c3 q11), if_neg (fun z => q20 ((lg_cmp_eq ν 0).mpr z))])
          | (rw [if_pos (c1 q31), eI, low32_one hN, low32_half hN, if_pos (by have := (pk_lEQ (a := N % 2) (b := 0) (by omega) (by decide)).mp ((lg_cmp_eq _ _).mp q41); rw [this]; rfl), lN_i])
          | (rw [if_pos (c1 q31), eI, low32_one hN, low32_half hN, if_neg (fun z => q41 ((lg_cmp_eq _ _).mpr (by have := (nI_eq (a := N % 2) (b := 0) (by omega) (by decide)).mp z; rw [this]; rfl)))]
             have e9 : (-(lN (N / 2)) - 1).toInt32 = -nI (N / 2) - 1 := by rw [Int64.toInt32_sub, Int64.toInt32_neg, lN_i]; rfl
             rw [e9])
          | (rw [if_neg (fun z => q31 (by rw [z]; rfl)), if_neg (fun z => q11 (by rw [z]; rfl)), eI, lN_i])
  · refine T_aload_n (pc := 14) d_Md_meant_14 rfl ?_
    refine T_get (pc := 15) d_Md_meant_15 sF_Md_137_Md hM.1 rfl ?_
    refine T_lconst (v := 0) (pc := 18) d_Md_meant_18 rfl ?_
    refine T_lcmp (pc := 19) d_Md_meant_19 ?_
    refine T_if_ne (tgt := 27) (pc := 20) d_Md_meant_20 (by decide) (fun q20 => ?_) (fun q20 => ?_)
    · refine T_iconst (v := 1) (pc := 27) d_Md_meant_27 rfl ?_
      refine T_iret (pc := 28) d_Md_meant_28 rfl rfl (Nat.le_refl _) ?_
      refine ⟨?_, rfl⟩
      unfold iop
      have c3 : ∀ z : nI k = 3, k = 3 := fun z => (nI_eq (a := k) (b := 3) (by omega) (by decide)).mp z
      have c1 : ∀ z : nI k = 1, k = 1 := fun z => (nI_eq (a := k) (b := 1) (by omega) (by decide)).mp z
      first
        | (rw [if_neg (by have := c3 q11; omega), if_pos (c3 q11), if_pos ((lg_cmp_eq ν 0).mp q20)])
        | (rw [if_neg (by have := c3 q11; omega), if_pos (c3 q11), if_neg (fun z => q20 ((lg_cmp_eq ν 0).mpr z))])
        | (rw [if_pos (c1 q31), eI, low32_one hN, low32_half hN, if_pos (by have := (pk_lEQ (a := N % 2) (b := 0) (by omega) (by decide)).mp ((lg_cmp_eq _ _).mp q41); rw [this]; rfl), lN_i])
        | (rw [if_pos (c1 q31), eI, low32_one hN, low32_half hN, if_neg (fun z => q41 ((lg_cmp_eq _ _).mpr (by have := (nI_eq (a := N % 2) (b := 0) (by omega) (by decide)).mp z; rw [this]; rfl)))]
           have e9 : (-(lN (N / 2)) - 1).toInt32 = -nI (N / 2) - 1 := by rw [Int64.toInt32_sub, Int64.toInt32_neg, lN_i]; rfl
           rw [e9])
        | (rw [if_neg (fun z => q31 (by rw [z]; rfl)), if_neg (fun z => q11 (by rw [z]; rfl)), eI, lN_i])
    · refine T_iconst (v := 0) (pc := 23) d_Md_meant_23 rfl ?_
      refine T_goto (tgt := 28) (pc := 24) d_Md_meant_24 (by decide) ?_
      refine T_iret (pc := 28) d_Md_meant_28 rfl rfl (Nat.le_refl _) ?_
      refine ⟨?_, rfl⟩
      unfold iop
      have c3 : ∀ z : nI k = 3, k = 3 := fun z => (nI_eq (a := k) (b := 3) (by omega) (by decide)).mp z
      have c1 : ∀ z : nI k = 1, k = 1 := fun z => (nI_eq (a := k) (b := 1) (by omega) (by decide)).mp z
      first
        | (rw [if_neg (by have := c3 q11; omega), if_pos (c3 q11), if_pos ((lg_cmp_eq ν 0).mp q20)])
        | (rw [if_neg (by have := c3 q11; omega), if_pos (c3 q11), if_neg (fun z => q20 ((lg_cmp_eq ν 0).mpr z))])
        | (rw [if_pos (c1 q31), eI, low32_one hN, low32_half hN, if_pos (by have := (pk_lEQ (a := N % 2) (b := 0) (by omega) (by decide)).mp ((lg_cmp_eq _ _).mp q41); rw [this]; rfl), lN_i])
        | (rw [if_pos (c1 q31), eI, low32_one hN, low32_half hN, if_neg (fun z => q41 ((lg_cmp_eq _ _).mpr (by have := (nI_eq (a := N % 2) (b := 0) (by omega) (by decide)).mp z; rw [this]; rfl)))]
           have e9 : (-(lN (N / 2)) - 1).toInt32 = -nI (N / 2) - 1 := by rw [Int64.toInt32_sub, Int64.toInt32_neg, lN_i]; rfl
           rw [e9])
        | (rw [if_neg (fun z => q31 (by rw [z]; rfl)), if_neg (fun z => q11 (by rw [z]; rfl)), eI, lN_i])
