/-! OnceWireModel: writeTagged. -/
theorem b_652 (j : Nat) (hj : j < 64) : bt 65280 j = (decide (8 ≤ j) && decide (j < 16)) := by
  revert j
  decide +kernel
theorem swp_bt (x : Int32) {j : Nat} (hj : j < 32) : bt (swp x) j = (((decide (24 ≤ j) && bt x (j - 24)) || (decide (8 ≤ j) && (bt x (j - 8) && bt 65280 (j - 8)))) || (bt x (8 + j) && bt 65280 j) || bt x (24 + j)) := by
  unfold swp
  rw [b_or, b_or, b_or, b_shl24 x hj, b_shl8 _ hj, b_and, b_and, show ((x.toUInt32 >>> (Int32.toUInt32 8 &&& Int32.toUInt32 31)).toInt32) = ((x.toUInt32 >>> ((nI 8).toUInt32 &&& Int32.toUInt32 31)).toInt32) from rfl, b_ushr 8 (by omega), show ((x.toUInt32 >>> (Int32.toUInt32 24 &&& Int32.toUInt32 31)).toInt32) = ((x.toUInt32 >>> ((nI 24).toUInt32 &&& Int32.toUInt32 31)).toInt32) from rfl, b_ushr 24 (by omega)]
theorem swp_b (x : Int32) (a : Nat) (ha : a = 0 ∨ a = 8 ∨ a = 16 ∨ a = 24) : ((swp x).toUInt32 >>> ((nI (24 - a)).toUInt32 &&& Int32.toUInt32 31)).toInt32 &&& 255 = (x >>> (nI a &&& 31)) &&& 255 := by
  rw [sru a (by omega)]
  refine b_ext (fun i hi => ?_)
  rw [b_and, b_and, b_255, b_ushr (24 - a) (by omega), b_ushr a (by omega)]
  by_cases q : i < 8
  · rw [swp_bt x (by omega), b_652 _ (by omega), b_652 _ (by omega)]
    have h8 : i = 0 ∨ i = 1 ∨ i = 2 ∨ i = 3 ∨ i = 4 ∨ i = 5 ∨ i = 6 ∨ i = 7 := by omega
    rcases ha with rfl | rfl | rfl | rfl <;> rcases h8 with rfl | rfl | rfl | rfl | rfl | rfl | rfl | rfl <;> simp [b_big]
  · simp [q]
def lek (x : Int32) : Nat → Nat → List Int32
  | _, 0 => []
  | k, t + 1 => ((x >>> ((8 * nI k) &&& 31)) &&& 255) :: lek x (k + 1) t
theorem lek4 (x : Int32) : lek x 0 4 = wby (swp x) := by
  have e : lek x 0 4 = [(x >>> ((8 * nI 0) &&& 31)) &&& 255, (x >>> ((8 * nI 1) &&& 31)) &&& 255, (x >>> ((8 * nI 2) &&& 31)) &&& 255, (x >>> ((8 * nI 3) &&& 31)) &&& 255] := rfl
  rw [e, show (8 : Int32) * nI 3 = nI 24 from pk_mul 8 3, show (8 : Int32) * nI 2 = nI 16 from pk_mul 8 2, show (8 : Int32) * nI 1 = nI 8 from pk_mul 8 1, show (8 : Int32) * nI 0 = nI 0 from pk_mul 8 0, ← swp_b x 24 (by omega), ← swp_b x 16 (by omega), ← swp_b x 8 (by omega), ← swp_b x 0 (by omega)]
  have z : ∀ y : Int32, (y.toUInt32 >>> ((nI (24 - 24)).toUInt32 &&& Int32.toUInt32 31)).toInt32 = y := fun y => b_ext (fun i hi => by rw [b_ushr 0 (by omega), Nat.zero_add])
  rw [z]
  rfl
theorem u32_int (v : Int32) : (u32 v : Int) = if v.toInt < 0 then v.toInt + 2 ^ 32 else v.toInt := by
  unfold u32
  have h := BitVec.toInt_eq_toNat_cond v.toBitVec
  have h2 := v.toBitVec.isLt
  rw [show v.toInt = v.toBitVec.toInt from rfl, h]
  split <;> split <;> omega
theorem u32_p {v : Int32} (h : 0 ≤ v) : v.toInt64 = lN (u32 v) := by
  have h0 : 0 ≤ v.toInt := by
    have := Int32.le_iff_toInt_le.mp h
    simpa using this
  have hu := u32_int v
  have hl := u32_lt v
  rw [if_neg (by omega)] at hu
  exact lN_of (by rw [Int32.toInt_toInt64, hu]) (by omega)
theorem u32_n {v : Int32} (h : ¬ 0 ≤ v) : v.toInt64 + 4294967296 = lN (u32 v) := by
  have h0 : v.toInt < 0 := by
    have := Int32.lt_iff_toInt_lt.mp (Int32.not_le.mp h)
    simpa using this
  have hr := i32_rng v
  have hu := u32_int v
  have hl := u32_lt v
  rw [if_pos h0] at hu
  refine lN_of ?_ (by omega)
  rw [Int64.toInt_add, Int32.toInt_toInt64, show (4294967296 : Int64).toInt = 4294967296 from rfl, Int.bmod_eq_of_le (by omega) (by omega), hu]
  omega
theorem u32_b {v : Int32} (h : v = 0 ∨ v = 1) : vi 4 (u32 v) = [v] := by
  rcases h with rfl | rfl <;> decide +kernel
set_option maxRecDepth 100000 in
set_option maxHeartbeats 4000000 in
theorem c_Md_writeTagged_loop {n m : Nat} {x y : Int32} {ν : Int64} {Q : aQ} : ∀ (t k : Nat) (h : aH) (σ : Nat → Int32) (α : Nat → Nat → Int32) (l : List Int32), k + t = 4 → l.length + t ≤ 210 → Md h m σ ν α → mRe σ α l → (∀ h' σ' α', Md h' m σ' ν α' → mdO h h' m → mRe σ' α' (l ++ lek x k t) → sX [8] σ σ' → aX [6] α α' → Q none h') → Tri M_Md_writeTagged (a_rm 2 0 0) (a_Z 0 0 Q) 114 [(3, .int (nI k)), (0, .ref m), (1, .int y), (2, .int x)] [] n h 0 0 := by
  intro t
  induction t with
  | zero =>
    intro k h σ α l hk hl hM hr hQ
    have hk4 : k = 4 := by omega
    subst hk4
    refine T_iload_n (pc := 114) d_Md_writeTagged_114 rfl ?_
    refine T_iconst (v := 4) (pc := 115) d_Md_writeTagged_115 rfl ?_
    refine T_icmp_ge (tgt := 139) (pc := 116) d_Md_writeTagged_116 (by decide) (fun q116 => ?_) (fun q116 => ?_)
    · refine T_goto (tgt := 147) (pc := 139) d_Md_writeTagged_139 (by decide) ?_
      refine T_vret (pc := 147) d_Md_writeTagged_147 rfl rfl (Nat.le_refl _) ?_
      exact hQ h σ α hM mdO.rf (by rw [lek, List.append_nil]; exact hr) sX.rf aX.rf
    · exact absurd (Int32.le_refl _) q116
  | succ t ih =>
    intro k h σ α l hk hl hM hr hQ
    refine T_iload_n (pc := 114) d_Md_writeTagged_114 rfl ?_
    refine T_iconst (v := 4) (pc := 115) d_Md_writeTagged_115 rfl ?_
    refine T_icmp_ge (tgt := 139) (pc := 116) d_Md_writeTagged_116 (by decide) (fun q116 => ?_) (fun q116 => ?_)
    · exact absurd q116 (nI_ge (b := 4) (by omega) (by decide))
    · refine T_aload_n (pc := 119) d_Md_writeTagged_119 rfl ?_
      refine T_iload_n (pc := 120) d_Md_writeTagged_120 rfl ?_
      refine T_bipush (v := 8) (pc := 121) d_Md_writeTagged_121 rfl ?_
      refine T_iload_n (pc := 123) d_Md_writeTagged_123 rfl ?_
      refine T_imul (pc := 124) d_Md_writeTagged_124 ?_
      refine T_ishr (pc := 125) d_Md_writeTagged_125 ?_
      refine T_sipush (v := 255) (pc := 126) d_Md_writeTagged_126 rfl ?_
      refine T_iand (pc := 129) d_Md_writeTagged_129 ?_
      refine T_ivV (pc := 130) d_Md_writeTagged_130 sI_Md_90 (c_Md_write hM hr (by omega)) hM.1 rfl rfl ⟨(Nat.le_of_ble_eq_true rfl), (Nat.le_of_ble_eq_true rfl)⟩ ⟨(Nat.le_of_ble_eq_true rfl), (Nat.le_of_ble_eq_true rfl)⟩ (Nat.le_of_ble_eq_true rfl) (fun r1 h1 q1 => ?_)
      obtain ⟨σ1, ν1, α1, M1, O1, rfl, rfl, hr1, s1, a1⟩ := q1
      refine T_iinc (pc := 133) d_Md_writeTagged_133 rfl (nI_1 k) (Nat.le_of_ble_eq_true rfl) rfl ?_
      refine T_goto (tgt := 114) (pc := 136) d_Md_writeTagged_136 (by decide) ?_
      exact ih (k + 1) _ _ _ _ (by omega) (by simp; omega) M1 hr1 (fun h' σ' α' k1 k2 k3 k4 k5 => hQ h' σ' α' k1 (O1.tr k2) (by rw [List.append_assoc] at k3; exact k3) (s1.tr k4) (a1.tr k5))
set_option maxRecDepth 100000 in
set_option maxHeartbeats 4000000 in
theorem c_Md_writeTagged {n m : Nat} {h : aH} {σ : Nat → Int32} {ν : Int64} {α : Nat → Nat → Int32} {i : Nat} {t : Sf} {ns : List Sf} {x : Int32} {l : List Int32} (hM : Md h m σ ν α) (hs : mSc σ α ns) (ht : ns[i]? = some t) (hr : mRe σ α l) (hl : l.length + 7 ≤ 210) (hb : t.2.1 = 3 → x = 0 ∨ x = 1) : Con M_Md_writeTagged 2 0 0 n [.ref m, .int (nI i), .int x] h (mQ h m (fun r σ' ν' α' => r = none ∧ ν' = ν ∧ mRe σ' α' (l ++ (vi 4 (keyN t) ++ wInt t.2.1 x)) ∧ sX [8] σ σ' ∧ aX [6] α α')) := by
  have hi := (List.getElem?_eq_some_iff.mp ht).1
  have hs4 := hs.1
  obtain ⟨b1, b2, b3, t1, t30, t3⟩ := hs.2.2 i t ht
  have e2 : α 2 (nI i).toNatClampNeg = nI t.2.1 := by rw [nI_clamp (by omega)]; exact b2
  have hkl := vi_le2 (keyN_lt t30)
  refine Con.of rfl (Nat.le_of_ble_eq_true rfl) ?_
  refine T_aload_n (pc := 0) d_Md_writeTagged_0 rfl ?_
  refine T_ldc2 (pc := 1) d_Md_writeTagged_1 (Ws_at (i := 8) (k := 49) rfl rfl) ?_
  refine T_aload_n (pc := 4) d_Md_writeTagged_4 rfl ?_
  refine T_get (pc := 5) d_Md_writeTagged_5 sF_Md_7_Md hM.1 rfl ?_
  refine T_iload_n (pc := 8) d_Md_writeTagged_8 rfl ?_
  refine T_iald (N := 4) (pc := 9) d_Md_writeTagged_9 (hM.arr 1) (vp_in_nI (by omega) (by decide)) ?_
  refine T_i2l (pc := 10) d_Md_writeTagged_10 ?_
  refine T_lmul (pc := 11) d_Md_writeTagged_11 ?_
  refine T_topL (y := lN (8 * t.1)) (by rw [nI_clamp (by omega), b1, nI_l (by omega)]; exact lN_mul 8 t.1) ?_
  refine T_aload_n (pc := 12) d_Md_writeTagged_12 rfl ?_
  refine T_get (pc := 13) d_Md_writeTagged_13 sF_Md_13_Md hM.1 rfl ?_
  refine T_iload_n (pc := 16) d_Md_writeTagged_16 rfl ?_
  refine T_iald (N := 4) (pc := 17) d_Md_writeTagged_17 (hM.arr 2) (vp_in_nI (by omega) (by decide)) ?_
  refine T_top (e2) ?_
  refine T_iconst (v := 2) (pc := 18) d_Md_writeTagged_18 rfl ?_
  refine T_icmp_ne (tgt := 28) (pc := 19) d_Md_writeTagged_19 (by decide) (fun q19 => ?_) (fun q19 => ?_)
  · refine T_lconst (v := 0) (pc := 28) d_Md_writeTagged_28 rfl ?_
    refine T_ladd (pc := 29) d_Md_writeTagged_29 ?_
    refine T_topL (y := lN (keyN t)) (by unfold keyN; first | (rw [if_pos ((nI_eq (a := t.2.1) (b := 2) (by omega) (by decide)).mp q19)]; exact lN_add _ 5) | (rw [if_neg (fun z => q19 (by rw [z]; rfl))]; exact lN_add _ 0)) ?_
    refine T_ivV (pc := 30) d_Md_writeTagged_30 sI_Md_99 (c_Md_writeVarint hM hr (Nat.lt_trans (keyN_lt t30) (by decide)) (by omega)) hM.1 rfl rfl ⟨(Nat.le_of_ble_eq_true rfl), (Nat.le_of_ble_eq_true rfl)⟩ ⟨(Nat.le_of_ble_eq_true rfl), (Nat.le_of_ble_eq_true rfl)⟩ (Nat.le_of_ble_eq_true rfl) (fun r1 h1 q1 => ?_)
    obtain ⟨σ1, ν1, α1, M1, O1, rfl, rfl, hr1, s1, a1⟩ := q1
    have e21 : α1 2 (nI i).toNatClampNeg = nI t.2.1 := by rw [a1 2 (by decide)]; exact e2
    have hl1 : (l ++ vi 4 (keyN t)).length ≤ l.length + 2 := by rw [List.length_append]; omega
    refine T_aload_n (pc := 33) d_Md_writeTagged_33 rfl ?_
    refine T_get (pc := 34) d_Md_writeTagged_34 sF_Md_13_Md M1.1 rfl ?_
    refine T_iload_n (pc := 37) d_Md_writeTagged_37 rfl ?_
    refine T_iald (N := 4) (pc := 38) d_Md_writeTagged_38 (M1.arr 2) (vp_in_nI (by omega) (by decide)) ?_
    refine T_top (e21) ?_
    refine T_if_ne (tgt := 64) (pc := 39) d_Md_writeTagged_39 (by decide) (fun q39 => ?_) (fun q39 => ?_)
    · refine T_aload_n (pc := 64) d_Md_writeTagged_64 rfl ?_
      refine T_get (pc := 65) d_Md_writeTagged_65 sF_Md_13_Md M1.1 rfl ?_
      refine T_iload_n (pc := 68) d_Md_writeTagged_68 rfl ?_
      refine T_iald (N := 4) (pc := 69) d_Md_writeTagged_69 (M1.arr 2) (vp_in_nI (by omega) (by decide)) ?_
      refine T_top (e21) ?_
      refine T_iconst (v := 1) (pc := 70) d_Md_writeTagged_70 rfl ?_
      refine T_icmp_ne (tgt := 102) (pc := 71) d_Md_writeTagged_71 (by decide) (fun q71 => ?_) (fun q71 => ?_)
      · refine T_aload_n (pc := 102) d_Md_writeTagged_102 rfl ?_
        refine T_get (pc := 103) d_Md_writeTagged_103 sF_Md_13_Md M1.1 rfl ?_
        refine T_iload_n (pc := 106) d_Md_writeTagged_106 rfl ?_
        refine T_iald (N := 4) (pc := 107) d_Md_writeTagged_107 (M1.arr 2) (vp_in_nI (by omega) (by decide)) ?_
        refine T_top (e21) ?_
        refine T_iconst (v := 2) (pc := 108) d_Md_writeTagged_108 rfl ?_
        refine T_icmp_ne (tgt := 142) (pc := 109) d_Md_writeTagged_109 (by decide) (fun q109 => ?_) (fun q109 => ?_)
        · refine T_aload_n (pc := 142) d_Md_writeTagged_142 rfl ?_
          refine T_iload_n (pc := 143) d_Md_writeTagged_143 rfl ?_
          refine T_ivV (pc := 144) d_Md_writeTagged_144 sI_Md_90 (c_Md_write M1 hr1 (by omega)) M1.1 rfl rfl ⟨(Nat.le_of_ble_eq_true rfl), (Nat.le_of_ble_eq_true rfl)⟩ ⟨(Nat.le_of_ble_eq_true rfl), (Nat.le_of_ble_eq_true rfl)⟩ (Nat.le_of_ble_eq_true rfl) (fun r2 h2 q2 => ?_)
          obtain ⟨σ2, ν2, α2, M2, O2, rfl, rfl, hr2, s2, a2⟩ := q2
          refine T_vret (pc := 147) d_Md_writeTagged_147 rfl rfl (Nat.le_refl _) ?_
          have hk3 : t.2.1 = 3 := by
            have z0 : t.2.1 ≠ 0 := fun z => q39 (by rw [z]; rfl)
            have z1 : t.2.1 ≠ 1 := fun z => q71 (by rw [z]; rfl)
            have z2 : t.2.1 ≠ 2 := fun z => q109 (by rw [z]; rfl)
            omega
          refine ⟨_, _, _, M2, (mdO.tr (mdO.tr mdO.rf O1) O2), rfl, rfl, ?_, s1.tr s2, a1.tr a2⟩
          rw [List.append_assoc] at hr2
          rw [wInt, if_neg (by omega), if_neg (by omega), u32_b (hb hk3)]
          exact hr2
        · refine T_iconst (v := 0) (pc := 112) d_Md_writeTagged_112 rfl ?_
          refine T_istore_n (pc := 113) d_Md_writeTagged_113 rfl (Nat.le_of_ble_eq_true rfl) rfl ?_
          have hk2 : t.2.1 = 2 := (nI_eq (a := t.2.1) (b := 2) (by omega) (by decide)).mp q109
          refine c_Md_writeTagged_loop 4 0 _ _ _ _ rfl (by omega) M1 hr1 (fun h' σ' α' k1 k2 k3 k4 k5 => ⟨σ', _, α', k1, O1.tr k2, rfl, rfl, ?_, s1.tr k4, a1.tr k5⟩)
          rw [wInt, if_pos hk2, ← lek4, ← List.append_assoc]
          exact k3
      · refine T_aload_n (pc := 74) d_Md_writeTagged_74 rfl ?_
        refine T_iload_n (pc := 75) d_Md_writeTagged_75 rfl ?_
        refine T_if_ge (tgt := 90) (pc := 76) d_Md_writeTagged_76 (by decide) (fun q76 => ?_) (fun q76 => ?_)
        · refine T_ldc2 (pc := 90) d_Md_writeTagged_90 (Ws_at (i := 8) (k := 55) rfl rfl) ?_
          refine T_iload_n (pc := 93) d_Md_writeTagged_93 rfl ?_
          refine T_i2l (pc := 94) d_Md_writeTagged_94 ?_
          refine T_lmul (pc := 95) d_Md_writeTagged_95 ?_
          refine T_topL (y := lN (zig x)) (by first | exact zig_p (Int32.not_lt.mpr q76) | exact zig_n (Int32.not_le.mp q76)) ?_
          refine T_ivV (pc := 96) d_Md_writeTagged_96 sI_Md_99 (c_Md_writeVarint M1 hr1 (Nat.lt_trans (zig_lt x) (by decide)) (by have := vi_len 4 (zig x); omega)) M1.1 rfl rfl ⟨(Nat.le_of_ble_eq_true rfl), (Nat.le_of_ble_eq_true rfl)⟩ ⟨(Nat.le_of_ble_eq_true rfl), (Nat.le_of_ble_eq_true rfl)⟩ (Nat.le_of_ble_eq_true rfl) (fun r2 h2 q2 => ?_)
          obtain ⟨σ2, ν2, α2, M2, O2, rfl, rfl, hr2, s2, a2⟩ := q2
          refine T_goto (tgt := 147) (pc := 99) d_Md_writeTagged_99 (by decide) ?_
          refine T_vret (pc := 147) d_Md_writeTagged_147 rfl rfl (Nat.le_refl _) ?_
          refine ⟨_, _, _, M2, (mdO.tr (mdO.tr mdO.rf O1) O2), rfl, rfl, ?_, s1.tr s2, a1.tr a2⟩
          rw [List.append_assoc] at hr2
          have hk1 : t.2.1 = 1 := (nI_eq (a := t.2.1) (b := 1) (by omega) (by decide)).mp q71
          rw [wInt, if_neg (by omega), if_pos hk1]
          exact hr2
        · refine T_ldc2 (pc := 79) d_Md_writeTagged_79 (Ws_at (i := 8) (k := 54) rfl rfl) ?_
          refine T_iload_n (pc := 82) d_Md_writeTagged_82 rfl ?_
          refine T_i2l (pc := 83) d_Md_writeTagged_83 ?_
          refine T_lmul (pc := 84) d_Md_writeTagged_84 ?_
          refine T_lconst (v := 1) (pc := 85) d_Md_writeTagged_85 rfl ?_
          refine T_lsub (pc := 86) d_Md_writeTagged_86 ?_
          refine T_goto (tgt := 96) (pc := 87) d_Md_writeTagged_87 (by decide) ?_
          refine T_topL (y := lN (zig x)) (by first | exact zig_p (Int32.not_lt.mpr q76) | exact zig_n (Int32.not_le.mp q76)) ?_
          refine T_ivV (pc := 96) d_Md_writeTagged_96 sI_Md_99 (c_Md_writeVarint M1 hr1 (Nat.lt_trans (zig_lt x) (by decide)) (by have := vi_len 4 (zig x); omega)) M1.1 rfl rfl ⟨(Nat.le_of_ble_eq_true rfl), (Nat.le_of_ble_eq_true rfl)⟩ ⟨(Nat.le_of_ble_eq_true rfl), (Nat.le_of_ble_eq_true rfl)⟩ (Nat.le_of_ble_eq_true rfl) (fun r2 h2 q2 => ?_)
          obtain ⟨σ2, ν2, α2, M2, O2, rfl, rfl, hr2, s2, a2⟩ := q2
          refine T_goto (tgt := 147) (pc := 99) d_Md_writeTagged_99 (by decide) ?_
          refine T_vret (pc := 147) d_Md_writeTagged_147 rfl rfl (Nat.le_refl _) ?_
          refine ⟨_, _, _, M2, (mdO.tr (mdO.tr mdO.rf O1) O2), rfl, rfl, ?_, s1.tr s2, a1.tr a2⟩
          rw [List.append_assoc] at hr2
          have hk1 : t.2.1 = 1 := (nI_eq (a := t.2.1) (b := 1) (by omega) (by decide)).mp q71
          rw [wInt, if_neg (by omega), if_pos hk1]
          exact hr2
    · refine T_aload_n (pc := 42) d_Md_writeTagged_42 rfl ?_
      refine T_iload_n (pc := 43) d_Md_writeTagged_43 rfl ?_
      refine T_if_ge (tgt := 56) (pc := 44) d_Md_writeTagged_44 (by decide) (fun q44 => ?_) (fun q44 => ?_)
      · refine T_iload_n (pc := 56) d_Md_writeTagged_56 rfl ?_
        refine T_i2l (pc := 57) d_Md_writeTagged_57 ?_
        refine T_topL (y := lN (u32 x)) (by first | (have z := u32_p (v := x) q44; exact z) | (have z := u32_n (v := x) q44; exact z)) ?_
        refine T_ivV (pc := 58) d_Md_writeTagged_58 sI_Md_99 (c_Md_writeVarint M1 hr1 (Nat.lt_trans (u32_lt x) (by decide)) (by have := vi_len 4 (u32 x); omega)) M1.1 rfl rfl ⟨(Nat.le_of_ble_eq_true rfl), (Nat.le_of_ble_eq_true rfl)⟩ ⟨(Nat.le_of_ble_eq_true rfl), (Nat.le_of_ble_eq_true rfl)⟩ (Nat.le_of_ble_eq_true rfl) (fun r2 h2 q2 => ?_)
        obtain ⟨σ2, ν2, α2, M2, O2, rfl, rfl, hr2, s2, a2⟩ := q2
        refine T_goto (tgt := 147) (pc := 61) d_Md_writeTagged_61 (by decide) ?_
        refine T_vret (pc := 147) d_Md_writeTagged_147 rfl rfl (Nat.le_refl _) ?_
        refine ⟨_, _, _, M2, (mdO.tr (mdO.tr mdO.rf O1) O2), rfl, rfl, ?_, s1.tr s2, a1.tr a2⟩
        rw [List.append_assoc] at hr2
        have hk0 : t.2.1 = 0 := (nI_eq (a := t.2.1) (b := 0) (by omega) (by decide)).mp q39
        rw [wInt, if_neg (by omega), if_neg (by omega)]
        exact hr2
      · refine T_iload_n (pc := 47) d_Md_writeTagged_47 rfl ?_
        refine T_i2l (pc := 48) d_Md_writeTagged_48 ?_
        refine T_ldc2 (pc := 49) d_Md_writeTagged_49 (Ws_at (i := 8) (k := 53) rfl rfl) ?_
        refine T_ladd (pc := 52) d_Md_writeTagged_52 ?_
        refine T_goto (tgt := 58) (pc := 53) d_Md_writeTagged_53 (by decide) ?_
        refine T_topL (y := lN (u32 x)) (by first | (have z := u32_p (v := x) q44; exact z) | (have z := u32_n (v := x) q44; exact z)) ?_
        refine T_ivV (pc := 58) d_Md_writeTagged_58 sI_Md_99 (c_Md_writeVarint M1 hr1 (Nat.lt_trans (u32_lt x) (by decide)) (by have := vi_len 4 (u32 x); omega)) M1.1 rfl rfl ⟨(Nat.le_of_ble_eq_true rfl), (Nat.le_of_ble_eq_true rfl)⟩ ⟨(Nat.le_of_ble_eq_true rfl), (Nat.le_of_ble_eq_true rfl)⟩ (Nat.le_of_ble_eq_true rfl) (fun r2 h2 q2 => ?_)
        obtain ⟨σ2, ν2, α2, M2, O2, rfl, rfl, hr2, s2, a2⟩ := q2
        refine T_goto (tgt := 147) (pc := 61) d_Md_writeTagged_61 (by decide) ?_
        refine T_vret (pc := 147) d_Md_writeTagged_147 rfl rfl (Nat.le_refl _) ?_
        refine ⟨_, _, _, M2, (mdO.tr (mdO.tr mdO.rf O1) O2), rfl, rfl, ?_, s1.tr s2, a1.tr a2⟩
        rw [List.append_assoc] at hr2
        have hk0 : t.2.1 = 0 := (nI_eq (a := t.2.1) (b := 0) (by omega) (by decide)).mp q39
        rw [wInt, if_neg (by omega), if_neg (by omega)]
        exact hr2
  · refine T_ldc2 (pc := 22) d_Md_writeTagged_22 (Ws_at (i := 8) (k := 50) rfl rfl) ?_
    refine T_goto (tgt := 29) (pc := 25) d_Md_writeTagged_25 (by decide) ?_
    refine T_ladd (pc := 29) d_Md_writeTagged_29 ?_
    refine T_topL (y := lN (keyN t)) (by unfold keyN; first | (rw [if_pos ((nI_eq (a := t.2.1) (b := 2) (by omega) (by decide)).mp q19)]; exact lN_add _ 5) | (rw [if_neg (fun z => q19 (by rw [z]; rfl))]; exact lN_add _ 0)) ?_
    refine T_ivV (pc := 30) d_Md_writeTagged_30 sI_Md_99 (c_Md_writeVarint hM hr (Nat.lt_trans (keyN_lt t30) (by decide)) (by omega)) hM.1 rfl rfl ⟨(Nat.le_of_ble_eq_true rfl), (Nat.le_of_ble_eq_true rfl)⟩ ⟨(Nat.le_of_ble_eq_true rfl), (Nat.le_of_ble_eq_true rfl)⟩ (Nat.le_of_ble_eq_true rfl) (fun r1 h1 q1 => ?_)
    obtain ⟨σ1, ν1, α1, M1, O1, rfl, rfl, hr1, s1, a1⟩ := q1
    have e21 : α1 2 (nI i).toNatClampNeg = nI t.2.1 := by rw [a1 2 (by decide)]; exact e2
    have hl1 : (l ++ vi 4 (keyN t)).length ≤ l.length + 2 := by rw [List.length_append]; omega
    refine T_aload_n (pc := 33) d_Md_writeTagged_33 rfl ?_
    refine T_get (pc := 34) d_Md_writeTagged_34 sF_Md_13_Md M1.1 rfl ?_
    refine T_iload_n (pc := 37) d_Md_writeTagged_37 rfl ?_
    refine T_iald (N := 4) (pc := 38) d_Md_writeTagged_38 (M1.arr 2) (vp_in_nI (by omega) (by decide)) ?_
    refine T_top (e21) ?_
    refine T_if_ne (tgt := 64) (pc := 39) d_Md_writeTagged_39 (by decide) (fun q39 => ?_) (fun q39 => ?_)
    · refine T_aload_n (pc := 64) d_Md_writeTagged_64 rfl ?_
      refine T_get (pc := 65) d_Md_writeTagged_65 sF_Md_13_Md M1.1 rfl ?_
      refine T_iload_n (pc := 68) d_Md_writeTagged_68 rfl ?_
      refine T_iald (N := 4) (pc := 69) d_Md_writeTagged_69 (M1.arr 2) (vp_in_nI (by omega) (by decide)) ?_
      refine T_top (e21) ?_
      refine T_iconst (v := 1) (pc := 70) d_Md_writeTagged_70 rfl ?_
      refine T_icmp_ne (tgt := 102) (pc := 71) d_Md_writeTagged_71 (by decide) (fun q71 => ?_) (fun q71 => ?_)
      · refine T_aload_n (pc := 102) d_Md_writeTagged_102 rfl ?_
        refine T_get (pc := 103) d_Md_writeTagged_103 sF_Md_13_Md M1.1 rfl ?_
        refine T_iload_n (pc := 106) d_Md_writeTagged_106 rfl ?_
        refine T_iald (N := 4) (pc := 107) d_Md_writeTagged_107 (M1.arr 2) (vp_in_nI (by omega) (by decide)) ?_
        refine T_top (e21) ?_
        refine T_iconst (v := 2) (pc := 108) d_Md_writeTagged_108 rfl ?_
        refine T_icmp_ne (tgt := 142) (pc := 109) d_Md_writeTagged_109 (by decide) (fun q109 => ?_) (fun q109 => ?_)
        · refine T_aload_n (pc := 142) d_Md_writeTagged_142 rfl ?_
          refine T_iload_n (pc := 143) d_Md_writeTagged_143 rfl ?_
          refine T_ivV (pc := 144) d_Md_writeTagged_144 sI_Md_90 (c_Md_write M1 hr1 (by omega)) M1.1 rfl rfl ⟨(Nat.le_of_ble_eq_true rfl), (Nat.le_of_ble_eq_true rfl)⟩ ⟨(Nat.le_of_ble_eq_true rfl), (Nat.le_of_ble_eq_true rfl)⟩ (Nat.le_of_ble_eq_true rfl) (fun r2 h2 q2 => ?_)
          obtain ⟨σ2, ν2, α2, M2, O2, rfl, rfl, hr2, s2, a2⟩ := q2
          refine T_vret (pc := 147) d_Md_writeTagged_147 rfl rfl (Nat.le_refl _) ?_
          have hk3 : t.2.1 = 3 := by
            have z0 : t.2.1 ≠ 0 := fun z => q39 (by rw [z]; rfl)
            have z1 : t.2.1 ≠ 1 := fun z => q71 (by rw [z]; rfl)
            have z2 : t.2.1 ≠ 2 := fun z => q109 (by rw [z]; rfl)
            omega
          refine ⟨_, _, _, M2, (mdO.tr (mdO.tr mdO.rf O1) O2), rfl, rfl, ?_, s1.tr s2, a1.tr a2⟩
          rw [List.append_assoc] at hr2
          rw [wInt, if_neg (by omega), if_neg (by omega), u32_b (hb hk3)]
          exact hr2
        · refine T_iconst (v := 0) (pc := 112) d_Md_writeTagged_112 rfl ?_
          refine T_istore_n (pc := 113) d_Md_writeTagged_113 rfl (Nat.le_of_ble_eq_true rfl) rfl ?_
          have hk2 : t.2.1 = 2 := (nI_eq (a := t.2.1) (b := 2) (by omega) (by decide)).mp q109
          refine c_Md_writeTagged_loop 4 0 _ _ _ _ rfl (by omega) M1 hr1 (fun h' σ' α' k1 k2 k3 k4 k5 => ⟨σ', _, α', k1, O1.tr k2, rfl, rfl, ?_, s1.tr k4, a1.tr k5⟩)
          rw [wInt, if_pos hk2, ← lek4, ← List.append_assoc]
          exact k3
      · refine T_aload_n (pc := 74) d_Md_writeTagged_74 rfl ?_
        refine T_iload_n (pc := 75) d_Md_writeTagged_75 rfl ?_
        refine T_if_ge (tgt := 90) (pc := 76) d_Md_writeTagged_76 (by decide) (fun q76 => ?_) (fun q76 => ?_)
        · refine T_ldc2 (pc := 90) d_Md_writeTagged_90 (Ws_at (i := 8) (k := 55) rfl rfl) ?_
          refine T_iload_n (pc := 93) d_Md_writeTagged_93 rfl ?_
          refine T_i2l (pc := 94) d_Md_writeTagged_94 ?_
          refine T_lmul (pc := 95) d_Md_writeTagged_95 ?_
          refine T_topL (y := lN (zig x)) (by first | exact zig_p (Int32.not_lt.mpr q76) | exact zig_n (Int32.not_le.mp q76)) ?_
          refine T_ivV (pc := 96) d_Md_writeTagged_96 sI_Md_99 (c_Md_writeVarint M1 hr1 (Nat.lt_trans (zig_lt x) (by decide)) (by have := vi_len 4 (zig x); omega)) M1.1 rfl rfl ⟨(Nat.le_of_ble_eq_true rfl), (Nat.le_of_ble_eq_true rfl)⟩ ⟨(Nat.le_of_ble_eq_true rfl), (Nat.le_of_ble_eq_true rfl)⟩ (Nat.le_of_ble_eq_true rfl) (fun r2 h2 q2 => ?_)
          obtain ⟨σ2, ν2, α2, M2, O2, rfl, rfl, hr2, s2, a2⟩ := q2
          refine T_goto (tgt := 147) (pc := 99) d_Md_writeTagged_99 (by decide) ?_
          refine T_vret (pc := 147) d_Md_writeTagged_147 rfl rfl (Nat.le_refl _) ?_
          refine ⟨_, _, _, M2, (mdO.tr (mdO.tr mdO.rf O1) O2), rfl, rfl, ?_, s1.tr s2, a1.tr a2⟩
          rw [List.append_assoc] at hr2
          have hk1 : t.2.1 = 1 := (nI_eq (a := t.2.1) (b := 1) (by omega) (by decide)).mp q71
          rw [wInt, if_neg (by omega), if_pos hk1]
          exact hr2
        · refine T_ldc2 (pc := 79) d_Md_writeTagged_79 (Ws_at (i := 8) (k := 54) rfl rfl) ?_
          refine T_iload_n (pc := 82) d_Md_writeTagged_82 rfl ?_
          refine T_i2l (pc := 83) d_Md_writeTagged_83 ?_
          refine T_lmul (pc := 84) d_Md_writeTagged_84 ?_
          refine T_lconst (v := 1) (pc := 85) d_Md_writeTagged_85 rfl ?_
          refine T_lsub (pc := 86) d_Md_writeTagged_86 ?_
          refine T_goto (tgt := 96) (pc := 87) d_Md_writeTagged_87 (by decide) ?_
          refine T_topL (y := lN (zig x)) (by first | exact zig_p (Int32.not_lt.mpr q76) | exact zig_n (Int32.not_le.mp q76)) ?_
          refine T_ivV (pc := 96) d_Md_writeTagged_96 sI_Md_99 (c_Md_writeVarint M1 hr1 (Nat.lt_trans (zig_lt x) (by decide)) (by have := vi_len 4 (zig x); omega)) M1.1 rfl rfl ⟨(Nat.le_of_ble_eq_true rfl), (Nat.le_of_ble_eq_true rfl)⟩ ⟨(Nat.le_of_ble_eq_true rfl), (Nat.le_of_ble_eq_true rfl)⟩ (Nat.le_of_ble_eq_true rfl) (fun r2 h2 q2 => ?_)
          obtain ⟨σ2, ν2, α2, M2, O2, rfl, rfl, hr2, s2, a2⟩ := q2
          refine T_goto (tgt := 147) (pc := 99) d_Md_writeTagged_99 (by decide) ?_
          refine T_vret (pc := 147) d_Md_writeTagged_147 rfl rfl (Nat.le_refl _) ?_
          refine ⟨_, _, _, M2, (mdO.tr (mdO.tr mdO.rf O1) O2), rfl, rfl, ?_, s1.tr s2, a1.tr a2⟩
          rw [List.append_assoc] at hr2
          have hk1 : t.2.1 = 1 := (nI_eq (a := t.2.1) (b := 1) (by omega) (by decide)).mp q71
          rw [wInt, if_neg (by omega), if_pos hk1]
          exact hr2
    · refine T_aload_n (pc := 42) d_Md_writeTagged_42 rfl ?_
      refine T_iload_n (pc := 43) d_Md_writeTagged_43 rfl ?_
      refine T_if_ge (tgt := 56) (pc := 44) d_Md_writeTagged_44 (by decide) (fun q44 => ?_) (fun q44 => ?_)
      · refine T_iload_n (pc := 56) d_Md_writeTagged_56 rfl ?_
        refine T_i2l (pc := 57) d_Md_writeTagged_57 ?_
        refine T_topL (y := lN (u32 x)) (by first | (have z := u32_p (v := x) q44; exact z) | (have z := u32_n (v := x) q44; exact z)) ?_
        refine T_ivV (pc := 58) d_Md_writeTagged_58 sI_Md_99 (c_Md_writeVarint M1 hr1 (Nat.lt_trans (u32_lt x) (by decide)) (by have := vi_len 4 (u32 x); omega)) M1.1 rfl rfl ⟨(Nat.le_of_ble_eq_true rfl), (Nat.le_of_ble_eq_true rfl)⟩ ⟨(Nat.le_of_ble_eq_true rfl), (Nat.le_of_ble_eq_true rfl)⟩ (Nat.le_of_ble_eq_true rfl) (fun r2 h2 q2 => ?_)
        obtain ⟨σ2, ν2, α2, M2, O2, rfl, rfl, hr2, s2, a2⟩ := q2
        refine T_goto (tgt := 147) (pc := 61) d_Md_writeTagged_61 (by decide) ?_
        refine T_vret (pc := 147) d_Md_writeTagged_147 rfl rfl (Nat.le_refl _) ?_
        refine ⟨_, _, _, M2, (mdO.tr (mdO.tr mdO.rf O1) O2), rfl, rfl, ?_, s1.tr s2, a1.tr a2⟩
        rw [List.append_assoc] at hr2
        have hk0 : t.2.1 = 0 := (nI_eq (a := t.2.1) (b := 0) (by omega) (by decide)).mp q39
        rw [wInt, if_neg (by omega), if_neg (by omega)]
        exact hr2
      · refine T_iload_n (pc := 47) d_Md_writeTagged_47 rfl ?_
        refine T_i2l (pc := 48) d_Md_writeTagged_48 ?_
        refine T_ldc2 (pc := 49) d_Md_writeTagged_49 (Ws_at (i := 8) (k := 53) rfl rfl) ?_
        refine T_ladd (pc := 52) d_Md_writeTagged_52 ?_
        refine T_goto (tgt := 58) (pc := 53) d_Md_writeTagged_53 (by decide) ?_
        refine T_topL (y := lN (u32 x)) (by first | (have z := u32_p (v := x) q44; exact z) | (have z := u32_n (v := x) q44; exact z)) ?_
        refine T_ivV (pc := 58) d_Md_writeTagged_58 sI_Md_99 (c_Md_writeVarint M1 hr1 (Nat.lt_trans (u32_lt x) (by decide)) (by have := vi_len 4 (u32 x); omega)) M1.1 rfl rfl ⟨(Nat.le_of_ble_eq_true rfl), (Nat.le_of_ble_eq_true rfl)⟩ ⟨(Nat.le_of_ble_eq_true rfl), (Nat.le_of_ble_eq_true rfl)⟩ (Nat.le_of_ble_eq_true rfl) (fun r2 h2 q2 => ?_)
        obtain ⟨σ2, ν2, α2, M2, O2, rfl, rfl, hr2, s2, a2⟩ := q2
        refine T_goto (tgt := 147) (pc := 61) d_Md_writeTagged_61 (by decide) ?_
        refine T_vret (pc := 147) d_Md_writeTagged_147 rfl rfl (Nat.le_refl _) ?_
        refine ⟨_, _, _, M2, (mdO.tr (mdO.tr mdO.rf O1) O2), rfl, rfl, ?_, s1.tr s2, a1.tr a2⟩
        rw [List.append_assoc] at hr2
        have hk0 : t.2.1 = 0 := (nI_eq (a := t.2.1) (b := 0) (by omega) (by decide)).mp q39
        rw [wInt, if_neg (by omega), if_neg (by omega)]
        exact hr2
