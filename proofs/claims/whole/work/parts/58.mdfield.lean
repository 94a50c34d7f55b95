/-! OnceWireModel: run, field. -/
set_option maxRecDepth 100000 in
set_option maxHeartbeats 4000000 in
theorem c_Md_run {n m : Nat} {h : aH} {σ : Nat → Int32} {ν : Int64} {α : Nat → Nat → Int32} {kp : Nat} {ns : List Sf} {vs : List (List Int32)} (hM : Md h m σ ν α) (hs : mSc σ α ns) (hv : mVa α 4 ns vs) (hk : kp ≤ 3) : Con M_Md_run 1 0 0 n [.ref m, .int (nI kp)] h (mQ h m (fun r σ' ν' α' => r = some (.int (rnR kp (σ 19) (dgF ns vs 0))) ∧ ν' = ν ∧ σ' 19 = rnT kp (σ 19) (dgF ns vs 0) ∧ σ' 20 = σ 20 + 1 ∧ sX [19, 20] σ σ' ∧ α' = α)) := by
  refine Con.of rfl (Nat.le_of_ble_eq_true rfl) ?_
  refine T_aload_n (pc := 0) d_Md_run_0 rfl ?_
  refine T_get (pc := 1) d_Md_run_1 sF_Md_172_Md hM.1 rfl ?_
  refine T_istore_n (pc := 4) d_Md_run_4 rfl (Nat.le_of_ble_eq_true rfl) rfl ?_
  refine T_aload_n (pc := 5) d_Md_run_5 rfl ?_
  refine T_ivV (pc := 6) d_Md_run_6 sI_Md_175 (c_Md_digest hM hs hv) hM.1 rfl rfl ⟨(Nat.le_of_ble_eq_true rfl), (Nat.le_of_ble_eq_true rfl)⟩ ⟨(Nat.le_of_ble_eq_true rfl), (Nat.le_of_ble_eq_true rfl)⟩ (Nat.le_of_ble_eq_true rfl) (fun r1 h1 q1 => ?_)
  obtain ⟨rfl, e1⟩ := q1
  rw [e1]
  refine T_istore_n (pc := 9) d_Md_run_9 rfl (Nat.le_of_ble_eq_true rfl) rfl ?_
  refine T_aload_n (pc := 10) d_Md_run_10 rfl ?_
  refine T_dup (pc := 11) d_Md_run_11 rfl ?_
  refine T_get (pc := 12) d_Md_run_12 sF_Md_179_Md hM.1 rfl ?_
  refine T_iconst (v := 1) (pc := 15) d_Md_run_15 rfl ?_
  refine T_iadd (pc := 16) d_Md_run_16 ?_
  refine T_put (pc := 17) d_Md_run_17 sF_Md_179_Md hM.1 (Nat.le_of_ble_eq_true rfl) (a_fit_i _) (T_up (fun h17x1 g17x1 o17x1 => ?_))
  have M17x1 := hM.put 20 _ g17x1 o17x1 rfl
  have O17x1 := mdO.o (j := 0) mdO.rf o17x1 (by decide)
  refine T_aload_n (pc := 20) d_Md_run_20 rfl ?_
  refine T_iload_n (pc := 21) d_Md_run_21 rfl ?_
  refine T_iconst (v := 1) (pc := 22) d_Md_run_22 rfl ?_
  refine T_icmp_ne (tgt := 35) (pc := 23) d_Md_run_23 (by decide) (fun q23 => ?_) (fun q23 => ?_)
  · refine T_iload_n (pc := 35) d_Md_run_35 rfl ?_
    refine T_iconst (v := 2) (pc := 36) d_Md_run_36 rfl ?_
    refine T_icmp_ne (tgt := 44) (pc := 37) d_Md_run_37 (by decide) (fun q37 => ?_) (fun q37 => ?_)
    · refine T_aload_n (pc := 44) d_Md_run_44 rfl ?_
      refine T_get (pc := 45) d_Md_run_45 sF_Md_172_Md M17x1.1 rfl ?_
      refine T_put (pc := 48) d_Md_run_48 sF_Md_172_Md M17x1.1 (Nat.le_of_ble_eq_true rfl) (a_fit_i _) (T_up (fun h48x2 g48x2 o48x2 => ?_))
      have M48x2 := M17x1.put 19 _ g48x2 o48x2 rfl
      have O48x2 := mdO.o (j := 0) O17x1 o48x2 (by decide)
      refine T_iload_n (pc := 51) d_Md_run_51 rfl ?_
      refine T_if_ne (tgt := 59) (pc := 52) d_Md_run_52 (by decide) (fun q52 => ?_) (fun q52 => ?_)
      · refine T_iload_n (pc := 59) d_Md_run_59 rfl ?_
        refine T_iconst (v := 2) (pc := 60) d_Md_run_60 rfl ?_
        refine T_icmp_ne (tgt := 68) (pc := 61) d_Md_run_61 (by decide) (fun q61 => ?_) (fun q61 => ?_)
        · refine T_aload_n (pc := 68) d_Md_run_68 rfl ?_
          refine T_get (pc := 69) d_Md_run_69 sF_Md_172_Md M48x2.1 rfl ?_
          refine T_iret (pc := 72) d_Md_run_72 rfl rfl (Nat.le_refl _) ?_
          have hk4 : kp = 0 ∨ kp = 1 ∨ kp = 2 ∨ kp = 3 := by omega
          rcases hk4 with rfl | rfl | rfl | rfl <;> first
            | exact absurd q23 (by decide)
            | exact absurd q37 (by decide)
            | exact absurd q52 (by decide)
            | exact absurd q61 (by decide)
            | exact ⟨_, _, _, M48x2, O48x2, rfl, rfl, rfl, rfl, (sX.rf.up (by decide)).up (by decide), rfl⟩
        · refine T_iload_n (pc := 64) d_Md_run_64 rfl ?_
          refine T_goto (tgt := 72) (pc := 65) d_Md_run_65 (by decide) ?_
          refine T_iret (pc := 72) d_Md_run_72 rfl rfl (Nat.le_refl _) ?_
          have hk4 : kp = 0 ∨ kp = 1 ∨ kp = 2 ∨ kp = 3 := by omega
          rcases hk4 with rfl | rfl | rfl | rfl <;> first
            | exact absurd q23 (by decide)
            | exact absurd q37 (by decide)
            | exact absurd q52 (by decide)
            | exact absurd q61 (by decide)
            | exact ⟨_, _, _, M48x2, O48x2, rfl, rfl, rfl, rfl, (sX.rf.up (by decide)).up (by decide), rfl⟩
      · refine T_iconst (v := 0) (pc := 55) d_Md_run_55 rfl ?_
        refine T_goto (tgt := 72) (pc := 56) d_Md_run_56 (by decide) ?_
        refine T_iret (pc := 72) d_Md_run_72 rfl rfl (Nat.le_refl _) ?_
        have hk4 : kp = 0 ∨ kp = 1 ∨ kp = 2 ∨ kp = 3 := by omega
        rcases hk4 with rfl | rfl | rfl | rfl <;> first
          | exact absurd q23 (by decide)
          | exact absurd q37 (by decide)
          | exact absurd q52 (by decide)
          | exact absurd q61 (by decide)
          | exact ⟨_, _, _, M48x2, O48x2, rfl, rfl, rfl, rfl, (sX.rf.up (by decide)).up (by decide), rfl⟩
    · refine T_iload_n (pc := 40) d_Md_run_40 rfl ?_
      refine T_goto (tgt := 48) (pc := 41) d_Md_run_41 (by decide) ?_
      refine T_put (pc := 48) d_Md_run_48 sF_Md_172_Md M17x1.1 (Nat.le_of_ble_eq_true rfl) (a_fit_i _) (T_up (fun h48x3 g48x3 o48x3 => ?_))
      have M48x3 := M17x1.put 19 _ g48x3 o48x3 rfl
      have O48x3 := mdO.o (j := 0) O17x1 o48x3 (by decide)
      refine T_iload_n (pc := 51) d_Md_run_51 rfl ?_
      refine T_if_ne (tgt := 59) (pc := 52) d_Md_run_52 (by decide) (fun q52 => ?_) (fun q52 => ?_)
      · refine T_iload_n (pc := 59) d_Md_run_59 rfl ?_
        refine T_iconst (v := 2) (pc := 60) d_Md_run_60 rfl ?_
        refine T_icmp_ne (tgt := 68) (pc := 61) d_Md_run_61 (by decide) (fun q61 => ?_) (fun q61 => ?_)
        · refine T_aload_n (pc := 68) d_Md_run_68 rfl ?_
          refine T_get (pc := 69) d_Md_run_69 sF_Md_172_Md M48x3.1 rfl ?_
          refine T_iret (pc := 72) d_Md_run_72 rfl rfl (Nat.le_refl _) ?_
          have hk4 : kp = 0 ∨ kp = 1 ∨ kp = 2 ∨ kp = 3 := by omega
          rcases hk4 with rfl | rfl | rfl | rfl <;> first
            | exact absurd q23 (by decide)
            | exact absurd q37 (by decide)
            | exact absurd q52 (by decide)
            | exact absurd q61 (by decide)
            | exact ⟨_, _, _, M48x3, O48x3, rfl, rfl, rfl, rfl, (sX.rf.up (by decide)).up (by decide), rfl⟩
        · refine T_iload_n (pc := 64) d_Md_run_64 rfl ?_
          refine T_goto (tgt := 72) (pc := 65) d_Md_run_65 (by decide) ?_
          refine T_iret (pc := 72) d_Md_run_72 rfl rfl (Nat.le_refl _) ?_
          have hk4 : kp = 0 ∨ kp = 1 ∨ kp = 2 ∨ kp = 3 := by omega
          rcases hk4 with rfl | rfl | rfl | rfl <;> first
            | exact absurd q23 (by decide)
            | exact absurd q37 (by decide)
            | exact absurd q52 (by decide)
            | exact absurd q61 (by decide)
            | exact ⟨_, _, _, M48x3, O48x3, rfl, rfl, rfl, rfl, (sX.rf.up (by decide)).up (by decide), rfl⟩
      · refine T_iconst (v := 0) (pc := 55) d_Md_run_55 rfl ?_
        refine T_goto (tgt := 72) (pc := 56) d_Md_run_56 (by decide) ?_
        refine T_iret (pc := 72) d_Md_run_72 rfl rfl (Nat.le_refl _) ?_
        have hk4 : kp = 0 ∨ kp = 1 ∨ kp = 2 ∨ kp = 3 := by omega
        rcases hk4 with rfl | rfl | rfl | rfl <;> first
          | exact absurd q23 (by decide)
          | exact absurd q37 (by decide)
          | exact absurd q52 (by decide)
          | exact absurd q61 (by decide)
          | exact ⟨_, _, _, M48x3, O48x3, rfl, rfl, rfl, rfl, (sX.rf.up (by decide)).up (by decide), rfl⟩
  · refine T_aload_n (pc := 26) d_Md_run_26 rfl ?_
    refine T_get (pc := 27) d_Md_run_27 sF_Md_172_Md M17x1.1 rfl ?_
    refine T_iload_n (pc := 30) d_Md_run_30 rfl ?_
    refine T_iadd (pc := 31) d_Md_run_31 ?_
    refine T_goto (tgt := 48) (pc := 32) d_Md_run_32 (by decide) ?_
    refine T_put (pc := 48) d_Md_run_48 sF_Md_172_Md M17x1.1 (Nat.le_of_ble_eq_true rfl) (a_fit_i _) (T_up (fun h48x4 g48x4 o48x4 => ?_))
    have M48x4 := M17x1.put 19 _ g48x4 o48x4 rfl
    have O48x4 := mdO.o (j := 0) O17x1 o48x4 (by decide)
    refine T_iload_n (pc := 51) d_Md_run_51 rfl ?_
    refine T_if_ne (tgt := 59) (pc := 52) d_Md_run_52 (by decide) (fun q52 => ?_) (fun q52 => ?_)
    · refine T_iload_n (pc := 59) d_Md_run_59 rfl ?_
      refine T_iconst (v := 2) (pc := 60) d_Md_run_60 rfl ?_
      refine T_icmp_ne (tgt := 68) (pc := 61) d_Md_run_61 (by decide) (fun q61 => ?_) (fun q61 => ?_)
      · refine T_aload_n (pc := 68) d_Md_run_68 rfl ?_
        refine T_get (pc := 69) d_Md_run_69 sF_Md_172_Md M48x4.1 rfl ?_
        refine T_iret (pc := 72) d_Md_run_72 rfl rfl (Nat.le_refl _) ?_
        have hk4 : kp = 0 ∨ kp = 1 ∨ kp = 2 ∨ kp = 3 := by omega
        rcases hk4 with rfl | rfl | rfl | rfl <;> first
          | exact absurd q23 (by decide)
          | exact absurd q37 (by decide)
          | exact absurd q52 (by decide)
          | exact absurd q61 (by decide)
          | exact ⟨_, _, _, M48x4, O48x4, rfl, rfl, rfl, rfl, (sX.rf.up (by decide)).up (by decide), rfl⟩
      · refine T_iload_n (pc := 64) d_Md_run_64 rfl ?_
        refine T_goto (tgt := 72) (pc := 65) d_Md_run_65 (by decide) ?_
        refine T_iret (pc := 72) d_Md_run_72 rfl rfl (Nat.le_refl _) ?_
        have hk4 : kp = 0 ∨ kp = 1 ∨ kp = 2 ∨ kp = 3 := by omega
        rcases hk4 with rfl | rfl | rfl | rfl <;> first
          | exact absurd q23 (by decide)
          | exact absurd q37 (by decide)
          | exact absurd q52 (by decide)
          | exact absurd q61 (by decide)
          | exact ⟨_, _, _, M48x4, O48x4, rfl, rfl, rfl, rfl, (sX.rf.up (by decide)).up (by decide), rfl⟩
    · refine T_iconst (v := 0) (pc := 55) d_Md_run_55 rfl ?_
      refine T_goto (tgt := 72) (pc := 56) d_Md_run_56 (by decide) ?_
      refine T_iret (pc := 72) d_Md_run_72 rfl rfl (Nat.le_refl _) ?_
      have hk4 : kp = 0 ∨ kp = 1 ∨ kp = 2 ∨ kp = 3 := by omega
      rcases hk4 with rfl | rfl | rfl | rfl <;> first
        | exact absurd q23 (by decide)
        | exact absurd q37 (by decide)
        | exact absurd q52 (by decide)
        | exact absurd q61 (by decide)
        | exact ⟨_, _, _, M48x4, O48x4, rfl, rfl, rfl, rfl, (sX.rf.up (by decide)).up (by decide), rfl⟩
set_option maxRecDepth 100000 in
set_option maxHeartbeats 4000000 in
theorem c_Md_field_loop {n m : Nat} {h : aH} {σ : Nat → Int32} {ν : Int64} {α : Nat → Nat → Int32} {R : Room} {Z : aZ} {ns : List Sf} {y z2 z3 : Int32} (hM : Md h m σ ν α) (hs : mSc σ α ns) : ∀ (ts : List Sf) (i : Nat) (b : Bool), ns.drop i = ts → i ≤ ns.length → Tri M_Md_field R Z 44 [(4, .int (bI (b || (ixF y ts i).isSome))), (0, .ref m), (1, .int y), (2, .int z2), (3, .int z3)] [] n h 0 0 → Tri M_Md_field R Z 6 [(5, .int (nI i)), (4, .int (bI b)), (0, .ref m), (1, .int y), (2, .int z2), (3, .int z3)] [] n h 0 0 := by
  intro ts
  induction ts with
  | nil =>
    intro i b hts hi hQ
    have hi2 : i = ns.length := Nat.le_antisymm hi (List.drop_eq_nil_iff.mp hts)
    subst hi2
    rw [ixF, Option.isSome_none, Bool.or_false] at hQ
    refine T_iload (pc := 6) d_Md_field_6 rfl ?_
    refine T_aload_n (pc := 8) d_Md_field_8 rfl ?_
    refine T_get (pc := 9) d_Md_field_9 sF_Md_75_Md hM.1 rfl ?_
    refine T_icmp_ge (tgt := 44) (pc := 12) d_Md_field_12 (by decide) (fun q12 => ?_) (fun q12 => ?_)
    · exact T_loc [1, 2, 3, 4, 5] rfl hQ
    · exact absurd (by rw [hs.2.1]; exact Int32.le_refl _) q12
  | cons t ts ih =>
    intro i b hts hi hQ
    have hs4 := hs.1
    have hi2 : i < ns.length := by
      have := congrArg List.length hts
      simp at this
      omega
    have ht : ns[i]? = some t := by
      have := congrArg (fun l => l[0]?) hts
      simpa using this
    have hts2 : ns.drop (i + 1) = ts := by
      rw [← List.drop_drop, hts]
      rfl
    have e1 : α 1 (nI i).toNatClampNeg = nI t.1 := by rw [nI_clamp (by omega)]; exact (hs.2.2 i t ht).1
    refine T_iload (pc := 6) d_Md_field_6 rfl ?_
    refine T_aload_n (pc := 8) d_Md_field_8 rfl ?_
    refine T_get (pc := 9) d_Md_field_9 sF_Md_75_Md hM.1 rfl ?_
    refine T_icmp_ge (tgt := 44) (pc := 12) d_Md_field_12 (by decide) (fun q12 => ?_) (fun q12 => ?_)
    · exact absurd q12 (by rw [hs.2.1]; exact nI_ge hi2 (by omega))
    · refine T_iload (pc := 15) d_Md_field_15 rfl ?_
      refine T_if_ne (tgt := 31) (pc := 17) d_Md_field_17 (by decide) (fun q17 => ?_) (fun q17 => ?_)
      · refine T_iconst (v := 1) (pc := 31) d_Md_field_31 rfl ?_
        refine T_goto (tgt := 36) (pc := 32) d_Md_field_32 (by decide) ?_
        refine T_istore (pc := 36) d_Md_field_36 (Nat.le_of_ble_eq_true rfl) rfl ?_
        refine T_iinc (pc := 38) d_Md_field_38 rfl (nI_1 i) (Nat.le_of_ble_eq_true rfl) rfl ?_
        refine T_goto (tgt := 6) (pc := 41) d_Md_field_41 (by decide) ?_
        first
          | (have hb := bI_n q17
             subst hb
             exact T_loc [0, 1, 2, 3, 4, 5] rfl (ih (i + 1) true hts2 hi2 (by rw [Bool.true_or] at hQ ⊢; exact hQ)))
          | (have hb := bI_z q17
             subst hb
             rw [ixF, if_pos (e1.symm.trans q28)] at hQ
             exact T_loc [0, 1, 2, 3, 4, 5] rfl (ih (i + 1) true hts2 hi2 (by rw [Bool.true_or]; exact hQ)))
          | (have hb := bI_z q17
             subst hb
             rw [ixF, if_neg (fun z => q28 (e1.trans z))] at hQ
             exact T_loc [0, 1, 2, 3, 4, 5] rfl (ih (i + 1) false hts2 hi2 hQ))
      · refine T_aload_n (pc := 20) d_Md_field_20 rfl ?_
        refine T_get (pc := 21) d_Md_field_21 sF_Md_7_Md hM.1 rfl ?_
        refine T_iload (pc := 24) d_Md_field_24 rfl ?_
        refine T_iald (N := 4) (pc := 26) d_Md_field_26 (hM.arr 1) (vp_in_nI (by omega) (by decide)) ?_
        refine T_iload_n (pc := 27) d_Md_field_27 rfl ?_
        refine T_icmp_ne (tgt := 35) (pc := 28) d_Md_field_28 (by decide) (fun q28 => ?_) (fun q28 => ?_)
        · refine T_iconst (v := 0) (pc := 35) d_Md_field_35 rfl ?_
          refine T_istore (pc := 36) d_Md_field_36 (Nat.le_of_ble_eq_true rfl) rfl ?_
          refine T_iinc (pc := 38) d_Md_field_38 rfl (nI_1 i) (Nat.le_of_ble_eq_true rfl) rfl ?_
          refine T_goto (tgt := 6) (pc := 41) d_Md_field_41 (by decide) ?_
          first
            | (have hb := bI_n q17
               subst hb
               exact T_loc [0, 1, 2, 3, 4, 5] rfl (ih (i + 1) true hts2 hi2 (by rw [Bool.true_or] at hQ ⊢; exact hQ)))
            | (have hb := bI_z q17
               subst hb
               rw [ixF, if_pos (e1.symm.trans q28)] at hQ
               exact T_loc [0, 1, 2, 3, 4, 5] rfl (ih (i + 1) true hts2 hi2 (by rw [Bool.true_or]; exact hQ)))
            | (have hb := bI_z q17
               subst hb
               rw [ixF, if_neg (fun z => q28 (e1.trans z))] at hQ
               exact T_loc [0, 1, 2, 3, 4, 5] rfl (ih (i + 1) false hts2 hi2 hQ))
        · refine T_iconst (v := 1) (pc := 31) d_Md_field_31 rfl ?_
          refine T_goto (tgt := 36) (pc := 32) d_Md_field_32 (by decide) ?_
          refine T_istore (pc := 36) d_Md_field_36 (Nat.le_of_ble_eq_true rfl) rfl ?_
          refine T_iinc (pc := 38) d_Md_field_38 rfl (nI_1 i) (Nat.le_of_ble_eq_true rfl) rfl ?_
          refine T_goto (tgt := 6) (pc := 41) d_Md_field_41 (by decide) ?_
          first
            | (have hb := bI_n q17
               subst hb
               exact T_loc [0, 1, 2, 3, 4, 5] rfl (ih (i + 1) true hts2 hi2 (by rw [Bool.true_or] at hQ ⊢; exact hQ)))
            | (have hb := bI_z q17
               subst hb
               rw [ixF, if_pos (e1.symm.trans q28)] at hQ
               exact T_loc [0, 1, 2, 3, 4, 5] rfl (ih (i + 1) true hts2 hi2 (by rw [Bool.true_or]; exact hQ)))
            | (have hb := bI_z q17
               subst hb
               rw [ixF, if_neg (fun z => q28 (e1.trans z))] at hQ
               exact T_loc [0, 1, 2, 3, 4, 5] rfl (ih (i + 1) false hts2 hi2 hQ))
theorem mVa.new {α : Nat → Nat → Int32} {r : Nat} {ns : List Sf} {vs : List (List Int32)} {t : Sf} (hv : mVa α r ns vs) : mVa (mEm α (r + ns.length) t.2.2) r (ns ++ [t]) (vs ++ [if t.2.2 then [] else [0]]) := by
  refine ⟨by simp [hv.1], fun i t' w ht hw => ?_⟩
  by_cases e : i = ns.length
  · subst e
    rw [List.getElem?_append_right (Nat.le_refl _), Nat.sub_self] at ht
    rw [← hv.1, List.getElem?_append_right (Nat.le_refl _), Nat.sub_self] at hw
    cases ht
    cases hw
    refine ⟨?_, by split <;> simp, fun z => by rw [z]; rfl, ?_⟩
    · rw [mEm.a4, pk_us]
      split <;> rfl
    · rw [mEm.a5]
      split
      · exact Rw.nil
      · exact Rw.nil.app rfl
  · have hi := (List.getElem?_eq_some_iff.mp ht).1
    simp at hi
    rw [List.getElem?_append_left (by omega)] at ht
    rw [List.getElem?_append_left (by rw [hv.1]; omega)] at hw
    obtain ⟨a1, a2, a3, a4⟩ := hv.2 i t' w ht hw
    refine ⟨?_, a2, a3, ?_⟩
    · rw [mEm.a4, pk_un (by omega)]
      exact a1
    · rw [mEm.a5]
      exact a4.same (fun q hq => pk_un (by omega))
theorem mSc.new {σ : Nat → Int32} {α : Nat → Nat → Int32} {ns : List Sf} {y k : Int32} {rp : Bool} (hs : mSc σ α ns) (hl : ns.length < 4) (hy : 1 ≤ y ∧ y ≤ 30) (hk : 0 ≤ k ∧ k ≤ 3) : mSc (upd σ 1 (nI (ns.length + 1))) (va_up (va_up (va_up α 1 (upd (α 1) ns.length y)) 2 (upd (α 2) ns.length k)) 3 (upd (α 3) ns.length (bI rp))) (ns ++ [(y.toNatClampNeg, k.toNatClampNeg, rp)]) := by
  refine ⟨by simp; omega, by rw [pk_us]; simp, fun i t ht => ?_⟩
  rw [va_up_ne _ _ (show (1 : Nat) ≠ 3 by decide), va_up_ne _ _ (show (1 : Nat) ≠ 2 by decide), va_up_self, va_up_ne _ _ (show (2 : Nat) ≠ 3 by decide), va_up_self, va_up_self]
  by_cases e : i = ns.length
  · subst e
    rw [List.getElem?_append_right (Nat.le_refl _), Nat.sub_self] at ht
    cases ht
    rw [pk_us, pk_us, pk_us]
    obtain ⟨a, ha, rfl⟩ : ∃ a : Nat, a < 31 ∧ y = nI a := by
      rcases pk_ix y (n := 31) (by decide) with q | q | q
      · exact absurd hy.1 (Int32.not_le.mpr (Int32.lt_trans q (by decide)))
      · exact absurd hy.2 (Int32.not_le.mpr (Int32.lt_of_lt_of_le (by decide) q))
      · exact q
    obtain ⟨b, hb, rfl⟩ : ∃ b : Nat, b < 4 ∧ k = nI b := by
      rcases pk_ix k (n := 4) (by decide) with q | q | q
      · exact absurd hk.1 (Int32.not_le.mpr q)
      · exact absurd hk.2 (Int32.not_le.mpr (Int32.lt_of_lt_of_le (by decide) q))
      · exact q
    have h1 : 1 ≤ a := (nI_leI (a := 1) (b := a) (by decide) (by omega)).mp hy.1
    rw [nI_clamp (by omega), nI_clamp (by omega)]
    exact ⟨rfl, rfl, rfl, h1, Nat.le_of_lt_succ ha, Nat.le_of_lt_succ hb⟩
  · have hi := (List.getElem?_eq_some_iff.mp ht).1
    simp at hi
    rw [List.getElem?_append_left (by omega)] at ht
    rw [pk_un e, pk_un e, pk_un e]
    exact hs.2.2 i t ht
set_option maxRecDepth 100000 in
set_option maxHeartbeats 4000000 in
theorem c_Md_field {n m : Nat} {h : aH} {σ : Nat → Int32} {ν : Int64} {α : Nat → Nat → Int32} {y k : Int32} {rp : Bool} {ns : List Sf} {vs svs : List (List Int32)} (hM : Md h m σ ν α) (hs : mSc σ α ns) (hv : mVa α 0 ns vs) (hu : mVa α 4 ns svs) : Con M_Md_field 1 0 0 n [.ref m, .int y, .int k, .int (bI rp)] h (mQ h m (fun r σ' ν' α' => r = some (.int (dcl ns y k rp).1) ∧ ν' = ν ∧ mSc σ' α' (dcl ns y k rp).2 ∧ mVa α' 0 (dcl ns y k rp).2 (fldV ns vs y k rp) ∧ mVa α' 4 (dcl ns y k rp).2 (fldV ns svs y k rp) ∧ sX [1] σ σ' ∧ aX [1, 2, 3, 4, 5] α α')) := by
  refine Con.of rfl (Nat.le_of_ble_eq_true rfl) ?_
  refine T_iconst (v := 0) (pc := 0) d_Md_field_0 rfl ?_
  refine T_istore (pc := 1) d_Md_field_1 (Nat.le_of_ble_eq_true rfl) rfl ?_
  refine T_iconst (v := 0) (pc := 3) d_Md_field_3 rfl ?_
  refine T_istore (pc := 4) d_Md_field_4 (Nat.le_of_ble_eq_true rfl) rfl ?_
  refine c_Md_field_loop hM hs ns 0 false List.drop_zero (Nat.zero_le _) ?_
  rw [Bool.false_or]
  refine T_iload_n (pc := 44) d_Md_field_44 rfl ?_
  refine T_iconst (v := 1) (pc := 45) d_Md_field_45 rfl ?_
  refine T_icmp_lt (tgt := 69) (pc := 46) d_Md_field_46 (by decide) (fun q46 => ?_) (fun q46 => ?_)
  · have hD : dcl ns y k rp = (-4, ns) := by
      first
        | rw [dcl, if_pos (Or.inl q46)]
        | rw [dcl, if_pos (Or.inr (Or.inl q52))]
        | rw [dcl, if_pos (Or.inr (Or.inr (Or.inl q56)))]
        | rw [dcl, if_pos (Or.inr (Or.inr (Or.inr q61)))]
        | rw [dcl, if_neg (fun z => z.elim q46 (fun z => z.elim q52 (fun z => z.elim q56 q61))), if_pos (fun z => by have := bI_n q66; rw [z] at this; cases this)]
    refine T_bipush (v := -4) (pc := 69) d_Md_field_69 rfl ?_
    refine T_iret (pc := 71) d_Md_field_71 rfl rfl (Nat.le_refl _) ?_
    unfold fldV
    rw [hD, if_pos rfl, if_pos rfl]
    exact ⟨_, _, _, hM, mdO.rf, rfl, rfl, hs, hv, hu, sX.rf, aX.rf⟩
  · refine T_iload_n (pc := 49) d_Md_field_49 rfl ?_
    refine T_bipush (v := 30) (pc := 50) d_Md_field_50 rfl ?_
    refine T_icmp_gt (tgt := 69) (pc := 52) d_Md_field_52 (by decide) (fun q52 => ?_) (fun q52 => ?_)
    · have hD : dcl ns y k rp = (-4, ns) := by
        first
          | rw [dcl, if_pos (Or.inl q46)]
          | rw [dcl, if_pos (Or.inr (Or.inl q52))]
          | rw [dcl, if_pos (Or.inr (Or.inr (Or.inl q56)))]
          | rw [dcl, if_pos (Or.inr (Or.inr (Or.inr q61)))]
          | rw [dcl, if_neg (fun z => z.elim q46 (fun z => z.elim q52 (fun z => z.elim q56 q61))), if_pos (fun z => by have := bI_n q66; rw [z] at this; cases this)]
      refine T_bipush (v := -4) (pc := 69) d_Md_field_69 rfl ?_
      refine T_iret (pc := 71) d_Md_field_71 rfl rfl (Nat.le_refl _) ?_
      unfold fldV
      rw [hD, if_pos rfl, if_pos rfl]
      exact ⟨_, _, _, hM, mdO.rf, rfl, rfl, hs, hv, hu, sX.rf, aX.rf⟩
    · refine T_iload_n (pc := 55) d_Md_field_55 rfl ?_
      refine T_if_lt (tgt := 69) (pc := 56) d_Md_field_56 (by decide) (fun q56 => ?_) (fun q56 => ?_)
      · have hD : dcl ns y k rp = (-4, ns) := by
          first
            | rw [dcl, if_pos (Or.inl q46)]
            | rw [dcl, if_pos (Or.inr (Or.inl q52))]
            | rw [dcl, if_pos (Or.inr (Or.inr (Or.inl q56)))]
            | rw [dcl, if_pos (Or.inr (Or.inr (Or.inr q61)))]
            | rw [dcl, if_neg (fun z => z.elim q46 (fun z => z.elim q52 (fun z => z.elim q56 q61))), if_pos (fun z => by have := bI_n q66; rw [z] at this; cases this)]
        refine T_bipush (v := -4) (pc := 69) d_Md_field_69 rfl ?_
        refine T_iret (pc := 71) d_Md_field_71 rfl rfl (Nat.le_refl _) ?_
        unfold fldV
        rw [hD, if_pos rfl, if_pos rfl]
        exact ⟨_, _, _, hM, mdO.rf, rfl, rfl, hs, hv, hu, sX.rf, aX.rf⟩
      · refine T_iload_n (pc := 59) d_Md_field_59 rfl ?_
        refine T_iconst (v := 3) (pc := 60) d_Md_field_60 rfl ?_
        refine T_icmp_gt (tgt := 69) (pc := 61) d_Md_field_61 (by decide) (fun q61 => ?_) (fun q61 => ?_)
        · have hD : dcl ns y k rp = (-4, ns) := by
            first
              | rw [dcl, if_pos (Or.inl q46)]
              | rw [dcl, if_pos (Or.inr (Or.inl q52))]
              | rw [dcl, if_pos (Or.inr (Or.inr (Or.inl q56)))]
              | rw [dcl, if_pos (Or.inr (Or.inr (Or.inr q61)))]
              | rw [dcl, if_neg (fun z => z.elim q46 (fun z => z.elim q52 (fun z => z.elim q56 q61))), if_pos (fun z => by have := bI_n q66; rw [z] at this; cases this)]
          refine T_bipush (v := -4) (pc := 69) d_Md_field_69 rfl ?_
          refine T_iret (pc := 71) d_Md_field_71 rfl rfl (Nat.le_refl _) ?_
          unfold fldV
          rw [hD, if_pos rfl, if_pos rfl]
          exact ⟨_, _, _, hM, mdO.rf, rfl, rfl, hs, hv, hu, sX.rf, aX.rf⟩
        · refine T_iload (pc := 64) d_Md_field_64 rfl ?_
          refine T_if_eq (tgt := 72) (pc := 66) d_Md_field_66 (by decide) (fun q66 => ?_) (fun q66 => ?_)
          · have hs4 := hs.1
            have hno : ixF y ns 0 = none := by
              have := bI_z q66
              cases hx : ixF y ns 0 with
              | none => rfl
              | some a => rw [hx] at this; cases this
            have hD0 : dcl ns y k rp = if 4 ≤ ns.length then (-5, ns) else (nI ns.length, ns ++ [(y.toNatClampNeg, k.toNatClampNeg, rp)]) := by
              rw [dcl, if_neg (fun z => z.elim q46 (fun z => z.elim q52 (fun z => z.elim q56 q61))), if_neg (fun z => z hno)]
            refine T_aload_n (pc := 72) d_Md_field_72 rfl ?_
            refine T_get (pc := 73) d_Md_field_73 sF_Md_75_Md hM.1 rfl ?_
            refine T_iconst (v := 4) (pc := 76) d_Md_field_76 rfl ?_
            refine T_icmp_ne (tgt := 83) (pc := 77) d_Md_field_77 (by decide) (fun q77 => ?_) (fun q77 => ?_)
            · have hl : ns.length < 4 := by
                rcases Nat.lt_or_ge ns.length 4 with z | z
                · exact z
                · exact absurd (by rw [hs.2.1, show ns.length = 4 by omega]; rfl) q77
              rw [if_neg (by omega)] at hD0
              have e1 := hs.2.1
              refine T_aload_n (pc := 83) d_Md_field_83 rfl ?_
              refine T_get (pc := 84) d_Md_field_84 sF_Md_7_Md hM.1 rfl ?_
              refine T_aload_n (pc := 87) d_Md_field_87 rfl ?_
              refine T_get (pc := 88) d_Md_field_88 sF_Md_75_Md hM.1 rfl ?_
              refine T_iload_n (pc := 91) d_Md_field_91 rfl ?_
              refine T_iast (N := 4) (pc := 92) d_Md_field_92 (by omega) (hM.arr 1) (by rw [e1]; exact vp_in_nI hl (by decide)) (T_up (fun h92x1 g92x1 o92x1 => ?_))
              have M92x1 := hM.ast 1 g92x1 o92x1
              have O92x1 := mdO.o (j := 1) mdO.rf o92x1 (by decide)
              refine T_aload_n (pc := 93) d_Md_field_93 rfl ?_
              refine T_get (pc := 94) d_Md_field_94 sF_Md_13_Md M92x1.1 rfl ?_
              refine T_aload_n (pc := 97) d_Md_field_97 rfl ?_
              refine T_get (pc := 98) d_Md_field_98 sF_Md_75_Md M92x1.1 rfl ?_
              refine T_iload_n (pc := 101) d_Md_field_101 rfl ?_
              refine T_iast (N := 4) (pc := 102) d_Md_field_102 (by omega) (M92x1.arr 2) (by rw [e1]; exact vp_in_nI hl (by decide)) (T_up (fun h102x2 g102x2 o102x2 => ?_))
              have M102x2 := M92x1.ast 2 g102x2 o102x2
              have O102x2 := mdO.o (j := 2) O92x1 o102x2 (by decide)
              refine T_aload_n (pc := 103) d_Md_field_103 rfl ?_
              refine T_get (pc := 104) d_Md_field_104 sF_Md_16_Md M102x2.1 rfl ?_
              refine T_aload_n (pc := 107) d_Md_field_107 rfl ?_
              refine T_get (pc := 108) d_Md_field_108 sF_Md_75_Md M102x2.1 rfl ?_
              refine T_iload_n (pc := 111) d_Md_field_111 rfl ?_
              refine T_zast (N := 4) (pc := 112) d_Md_field_112 (M102x2.arr 3) (by rw [e1]; exact vp_in_nI hl (by decide)) (T_up (fun h112x3 g112x3 o112x3 => ?_))
              have M112x3 := M102x2.ast 3 g112x3 o112x3
              have O112x3 := mdO.o (j := 3) O102x2 o112x3 (by decide)
              refine T_aload_n (pc := 113) d_Md_field_113 rfl ?_
              refine T_dup (pc := 114) d_Md_field_114 rfl ?_
              refine T_get (pc := 115) d_Md_field_115 sF_Md_75_Md M112x3.1 rfl ?_
              refine T_iconst (v := 1) (pc := 118) d_Md_field_118 rfl ?_
              refine T_iadd (pc := 119) d_Md_field_119 ?_
              refine T_put (pc := 120) d_Md_field_120 sF_Md_75_Md M112x3.1 (Nat.le_of_ble_eq_true rfl) (a_fit_i _) (T_up (fun h120x4 g120x4 o120x4 => ?_))
              have M120x4 := M112x3.put 1 _ g120x4 o120x4 rfl
              have O120x4 := mdO.o (j := 0) O112x3 o120x4 (by decide)
              refine T_aload_n (pc := 123) d_Md_field_123 rfl ?_
              refine T_aload_n (pc := 124) d_Md_field_124 rfl ?_
              refine T_get (pc := 125) d_Md_field_125 sF_Md_75_Md M120x4.1 rfl ?_
              refine T_iconst (v := 1) (pc := 128) d_Md_field_128 rfl ?_
              refine T_isub (pc := 129) d_Md_field_129 ?_
              have M5 := M120x4
              rw [va_up_ne _ _ (show (3 : Nat) ≠ 2 by decide), va_up_ne _ _ (show (3 : Nat) ≠ 1 by decide), va_up_ne _ _ (show (2 : Nat) ≠ 1 by decide), e1, nI_clamp (by omega), nI_1, nar_bI] at M5
              have hs5 := hs.new (y := y) (k := k) (rp := rp) hl ⟨Int32.not_lt.mp q46, Int32.not_lt.mp q52⟩ ⟨Int32.not_lt.mp q56, Int32.not_lt.mp q61⟩
              refine T_top (show upd σ 1 (σ 1 + 1) 1 - 1 = nI ns.length by rw [pk_us, e1, nI_1]; exact nI_pred ns.length) ?_
              refine T_ivV (pc := 130) d_Md_field_130 sI_Md_79 (c_Md_empty (r := ns.length) (b := rp) M5 (by omega) (by rw [Nat.mod_eq_of_lt hl, va_up_self, pk_us])) M5.1 rfl rfl ⟨(Nat.le_of_ble_eq_true rfl), (Nat.le_of_ble_eq_true rfl)⟩ ⟨(Nat.le_of_ble_eq_true rfl), (Nat.le_of_ble_eq_true rfl)⟩ (Nat.le_of_ble_eq_true rfl) (fun r1 h1 q1 => ?_)
              obtain ⟨σ1, ν1, α1, M1, O1, rfl, rfl, rfl, rfl⟩ := q1
              refine T_aload_n (pc := 133) d_Md_field_133 rfl ?_
              refine T_aload_n (pc := 134) d_Md_field_134 rfl ?_
              refine T_get (pc := 135) d_Md_field_135 sF_Md_75_Md M1.1 rfl ?_
              refine T_iconst (v := 3) (pc := 138) d_Md_field_138 rfl ?_
              refine T_iadd (pc := 139) d_Md_field_139 ?_
              refine T_top (show upd σ 1 (nI (ns.length + 1)) 1 + 3 = nI (4 + ns.length) by rw [pk_us]; exact (nI_add (ns.length + 1) 3).trans (by rw [show ns.length + 1 + 3 = 4 + ns.length by omega])) ?_
              refine T_ivV (pc := 140) d_Md_field_140 sI_Md_79 (c_Md_empty (r := 4 + ns.length) (b := rp) M1 (by omega) (by rw [show (4 + ns.length) % 4 = ns.length by omega, mEm.ax 3 (by decide), va_up_self, pk_us])) M1.1 rfl rfl ⟨(Nat.le_of_ble_eq_true rfl), (Nat.le_of_ble_eq_true rfl)⟩ ⟨(Nat.le_of_ble_eq_true rfl), (Nat.le_of_ble_eq_true rfl)⟩ (Nat.le_of_ble_eq_true rfl) (fun r2 h2 q2 => ?_)
              obtain ⟨σ2, ν2, α2, M2, O2, rfl, rfl, rfl, rfl⟩ := q2
              refine T_aload_n (pc := 143) d_Md_field_143 rfl ?_
              refine T_get (pc := 144) d_Md_field_144 sF_Md_75_Md M2.1 rfl ?_
              refine T_iconst (v := 1) (pc := 147) d_Md_field_147 rfl ?_
              refine T_isub (pc := 148) d_Md_field_148 ?_
              refine T_iret (pc := 149) d_Md_field_149 rfl rfl (Nat.le_refl _) ?_
              have hV : ∀ us, fldV ns us y k rp = us ++ [if rp then [] else [0]] := fun us => by
                unfold fldV
                rw [hD0]
                exact if_neg (by simp)
              rw [hV, hV, hD0]
              have hv5 : ∀ {r : Nat} {us : List (List Int32)}, mVa α r ns us → mVa (va_up (va_up (va_up α 1 (upd (α 1) ns.length y)) 2 (upd (α 2) ns.length k)) 3 (upd (α 3) ns.length (bI rp))) r ns us := fun h => h.same (by rw [va_up_ne _ _ (by decide), va_up_ne _ _ (by decide), va_up_ne _ _ (by decide)]) (by rw [va_up_ne _ _ (by decide), va_up_ne _ _ (by decide), va_up_ne _ _ (by decide)])
              have w0 := (hv5 hv).new (t := (y.toNatClampNeg, k.toNatClampNeg, rp))
              rw [Nat.zero_add] at w0
              have w1 := w0.far (r' := 4 + ns.length) (b := rp) (by simp; omega) (Or.inr (by omega))
              have w2 := (((hv5 hu).far (r' := ns.length) (b := rp) (by omega) (Or.inl (by omega)))).new (t := (y.toNatClampNeg, k.toNatClampNeg, rp))
              refine ⟨_, _, _, M2, (mdO.tr (mdO.tr O120x4 O1) O2), ?_, rfl, ?_, w1, w2, sX.rf.up (by decide), ((((aX.rf.up (by decide)).up (by decide)).up (by decide)).tr (aX.mono mEm.ax (by decide))).tr (aX.mono mEm.ax (by decide))⟩
              · rw [pk_us, nI_pred]
              · exact hs5.same rfl ((mEm.ax 1 (by decide)).trans (mEm.ax 1 (by decide))) ((mEm.ax 2 (by decide)).trans (mEm.ax 2 (by decide))) ((mEm.ax 3 (by decide)).trans (mEm.ax 3 (by decide)))
            · have hD : dcl ns y k rp = (-5, ns) := by
                have h1 : σ 1 = nI 4 := q77
                rw [hs.2.1] at h1
                have := (nI_eq (a := ns.length) (b := 4) (by omega) (by decide)).mp h1
                rw [hD0, if_pos (by omega)]
              refine T_bipush (v := -5) (pc := 80) d_Md_field_80 rfl ?_
              refine T_iret (pc := 82) d_Md_field_82 rfl rfl (Nat.le_refl _) ?_
              unfold fldV
              rw [hD, if_pos rfl, if_pos rfl]
              exact ⟨_, _, _, hM, mdO.rf, rfl, rfl, hs, hv, hu, sX.rf, aX.rf⟩
          · have hD : dcl ns y k rp = (-4, ns) := by
              first
                | rw [dcl, if_pos (Or.inl q46)]
                | rw [dcl, if_pos (Or.inr (Or.inl q52))]
                | rw [dcl, if_pos (Or.inr (Or.inr (Or.inl q56)))]
                | rw [dcl, if_pos (Or.inr (Or.inr (Or.inr q61)))]
                | rw [dcl, if_neg (fun z => z.elim q46 (fun z => z.elim q52 (fun z => z.elim q56 q61))), if_pos (fun z => by have := bI_n q66; rw [z] at this; cases this)]
            refine T_bipush (v := -4) (pc := 69) d_Md_field_69 rfl ?_
            refine T_iret (pc := 71) d_Md_field_71 rfl rfl (Nat.le_refl _) ?_
            unfold fldV
            rw [hD, if_pos rfl, if_pos rfl]
            exact ⟨_, _, _, hM, mdO.rf, rfl, rfl, hs, hv, hu, sX.rf, aX.rf⟩
