/-! OnceWireModel: writeVarint. -/
theorem T_topL {μ : aM} {R : Room} {Z : aZ} {pc : Nat} {L : List (Nat × Value)} {S : List Value} {n : Nat} {h : aH} {cells slots : Nat} {x y : Int64} (e : x = y) (k : Tri μ R Z pc L (.long y :: S) n h cells slots) : Tri μ R Z pc L (.long x :: S) n h cells slots := by
  rw [e]
  exact k
set_option maxRecDepth 100000 in
set_option maxHeartbeats 4000000 in
theorem c_Md_writeVarint_loop {n m : Nat} {x0 : Int64} {ν : Int64} {Q : aQ} : ∀ (k mm : Nat) (h : aH) (σ : Nat → Int32) (α : Nat → Nat → Int32) (l : List Int32), mm < 128 ^ (k + 1) → mm < 2 ^ 62 → l.length + (vi k mm).length ≤ 210 → Md h m σ ν α → mRe σ α l → (∀ h' σ' α', Md h' m σ' ν α' → mdO h h' m → mRe σ' α' (l ++ vi k mm) → sX [8] σ σ' → aX [6] α α' → Q none h') → Tri M_Md_writeVarint (a_rm 1 0 0) (a_Z 0 0 Q) 2 [(3, .long (lN mm)), (0, .ref m), (1, .long x0)] [] n h 0 0 := by
  intro k
  induction k with
  | zero =>
    intro mm h σ α l hm h62 hl hM hr hQ
    have hm8 : mm < 128 := by simpa using hm
    have hl' : l.length + 1 ≤ 210 := by simpa [vi] using hl
    refine T_lload_n (pc := 2) d_Md_writeVarint_2 rfl ?_
    refine T_ldc2 (pc := 3) d_Md_writeVarint_3 (Ws_at (i := 8) (k := 48) rfl rfl) ?_
    refine T_lcmp (pc := 6) d_Md_writeVarint_6 ?_
    refine T_if_lt (tgt := 33) (pc := 7) d_Md_writeVarint_7 (by decide) (fun q7 => ?_) (fun q7 => ?_)
    · refine T_aload_n (pc := 33) d_Md_writeVarint_33 rfl ?_
      refine T_lload_n (pc := 34) d_Md_writeVarint_34 rfl ?_
      refine T_l2i (pc := 35) d_Md_writeVarint_35 ?_
      refine T_top (lN_i mm) ?_
      refine T_ivV (pc := 36) d_Md_writeVarint_36 sI_Md_90 (c_Md_write hM hr (by omega)) hM.1 rfl rfl ⟨(Nat.le_of_ble_eq_true rfl), (Nat.le_of_ble_eq_true rfl)⟩ ⟨(Nat.le_of_ble_eq_true rfl), (Nat.le_of_ble_eq_true rfl)⟩ (Nat.le_of_ble_eq_true rfl) (fun r1 h1 q1 => ?_)
      obtain ⟨σ1, ν1, α1, M1, O1, rfl, rfl, hr1, s1, a1⟩ := q1
      refine T_vret (pc := 39) d_Md_writeVarint_39 rfl rfl (Nat.le_refl _) ?_
      exact hQ _ _ _ M1 O1 (by rw [vi]; exact hr1) s1 a1
    · exact absurd ((lg_cmp_lt (lN mm) 128).mpr ((pk_lLT (a := mm) (b := 128) (by omega) (by decide)).mpr hm8)) q7
  | succ k ih =>
    intro mm h σ α l hm h62 hl hM hr hQ
    refine T_lload_n (pc := 2) d_Md_writeVarint_2 rfl ?_
    refine T_ldc2 (pc := 3) d_Md_writeVarint_3 (Ws_at (i := 8) (k := 48) rfl rfl) ?_
    refine T_lcmp (pc := 6) d_Md_writeVarint_6 ?_
    refine T_if_lt (tgt := 33) (pc := 7) d_Md_writeVarint_7 (by decide) (fun q7 => ?_) (fun q7 => ?_)
    · have hm8 : mm < 128 := (pk_lLT (a := mm) (b := 128) (by omega) (by decide)).mp ((lg_cmp_lt (lN mm) 128).mp q7)
      have ev : vi (k + 1) mm = [nI mm] := by rw [vi, if_pos hm8]
      rw [ev] at hl hQ
      simp at hl
      refine T_aload_n (pc := 33) d_Md_writeVarint_33 rfl ?_
      refine T_lload_n (pc := 34) d_Md_writeVarint_34 rfl ?_
      refine T_l2i (pc := 35) d_Md_writeVarint_35 ?_
      refine T_top (lN_i mm) ?_
      refine T_ivV (pc := 36) d_Md_writeVarint_36 sI_Md_90 (c_Md_write hM hr (by omega)) hM.1 rfl rfl ⟨(Nat.le_of_ble_eq_true rfl), (Nat.le_of_ble_eq_true rfl)⟩ ⟨(Nat.le_of_ble_eq_true rfl), (Nat.le_of_ble_eq_true rfl)⟩ (Nat.le_of_ble_eq_true rfl) (fun r1 h1 q1 => ?_)
      obtain ⟨σ1, ν1, α1, M1, O1, rfl, rfl, hr1, s1, a1⟩ := q1
      refine T_vret (pc := 39) d_Md_writeVarint_39 rfl rfl (Nat.le_refl _) ?_
      exact hQ _ _ _ M1 O1 hr1 s1 a1
    · have hm8 : ¬ mm < 128 := fun z => q7 ((lg_cmp_lt (lN mm) 128).mpr ((pk_lLT (a := mm) (b := 128) (by omega) (by decide)).mpr z))
      have ev : vi (k + 1) mm = nI (mm % 128 + 128) :: vi k (mm / 128) := by rw [vi, if_neg hm8]
      rw [ev] at hl hQ
      simp at hl
      have hd : mm / 128 < 128 ^ (k + 1) := by
        rw [Nat.pow_succ] at hm
        exact Nat.div_lt_of_lt_mul (by rw [Nat.mul_comm]; exact hm)
      refine T_aload_n (pc := 10) d_Md_writeVarint_10 rfl ?_
      refine T_lload_n (pc := 11) d_Md_writeVarint_11 rfl ?_
      refine T_ldc2 (pc := 12) d_Md_writeVarint_12 (Ws_at (i := 8) (k := 48) rfl rfl) ?_
      refine T_lrem (pc := 15) d_Md_writeVarint_15 (by decide) ?_
      refine T_ldc2 (pc := 16) d_Md_writeVarint_16 (Ws_at (i := 8) (k := 48) rfl rfl) ?_
      refine T_ladd (pc := 19) d_Md_writeVarint_19 ?_
      refine T_l2i (pc := 20) d_Md_writeVarint_20 ?_
      refine T_top (show (lN mm - lN mm / 128 * 128 + 128).toInt32 = nI (mm % 128 + 128) by rw [show lN mm - lN mm / 128 * 128 = lN (mm % 128) from pk_lRem (b := 128) (by omega) (by decide) (by decide), show lN (mm % 128) + 128 = lN (mm % 128 + 128) from lN_add _ 128, lN_i]) ?_
      refine T_ivV (pc := 21) d_Md_writeVarint_21 sI_Md_90 (c_Md_write hM hr (by omega)) hM.1 rfl rfl ⟨(Nat.le_of_ble_eq_true rfl), (Nat.le_of_ble_eq_true rfl)⟩ ⟨(Nat.le_of_ble_eq_true rfl), (Nat.le_of_ble_eq_true rfl)⟩ (Nat.le_of_ble_eq_true rfl) (fun r1 h1 q1 => ?_)
      obtain ⟨σ1, ν1, α1, M1, O1, rfl, rfl, hr1, s1, a1⟩ := q1
      refine T_lload_n (pc := 24) d_Md_writeVarint_24 rfl ?_
      refine T_ldc2 (pc := 25) d_Md_writeVarint_25 (Ws_at (i := 8) (k := 48) rfl rfl) ?_
      refine T_ldiv (pc := 28) d_Md_writeVarint_28 (by decide) ?_
      refine T_topL (show lN mm / 128 = lN (mm / 128) from pk_lDiv (b := 128) (by omega) (by decide) (by decide)) ?_
      refine T_lstore_n (pc := 29) d_Md_writeVarint_29 rfl (Nat.le_of_ble_eq_true rfl) rfl ?_
      refine T_goto (tgt := 2) (pc := 30) d_Md_writeVarint_30 (by decide) ?_
      exact ih (mm / 128) _ _ _ _ hd (by omega) (by simp; omega) M1 hr1 (fun h' σ' α' k1 k2 k3 k4 k5 => hQ h' σ' α' k1 (O1.tr k2) (by rw [List.append_assoc] at k3; exact k3) (s1.tr k4) (a1.tr k5))
set_option maxRecDepth 100000 in
set_option maxHeartbeats 4000000 in
theorem c_Md_writeVarint {n m : Nat} {h : aH} {σ : Nat → Int32} {ν : Int64} {α : Nat → Nat → Int32} {mm : Nat} {l : List Int32} (hM : Md h m σ ν α) (hr : mRe σ α l) (hm : mm < 2 ^ 35) (h2 : l.length + (vi 4 mm).length ≤ 210) : Con M_Md_writeVarint 1 0 0 n [.ref m, .long (lN mm)] h (mQ h m (fun r σ' ν' α' => r = none ∧ ν' = ν ∧ mRe σ' α' (l ++ vi 4 mm) ∧ sX [8] σ σ' ∧ aX [6] α α')) := by
  refine Con.of rfl (Nat.le_of_ble_eq_true rfl) ?_
  refine T_lload_n (pc := 0) d_Md_writeVarint_0 rfl ?_
  refine T_lstore_n (pc := 1) d_Md_writeVarint_1 rfl (Nat.le_of_ble_eq_true rfl) rfl ?_
  exact c_Md_writeVarint_loop 4 mm h σ α l (by omega) (by omega) h2 hM hr (fun h' σ' α' k1 k2 k3 k4 k5 => ⟨σ', ν, α', k1, k2, rfl, rfl, k3, k4, k5⟩)
