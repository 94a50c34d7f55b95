/-! OnceWireModel: fieldOf. -/
def wiN (t : Sf) : Int32 := if t.2.1 = 2 then 5 else 0
def foF (x wi : Int32) : List Sf → Nat → Option Nat
  | [], _ => none
  | t :: ts, i => if nI t.1 = x ∧ wiN t = wi then some i else foF x wi ts (i + 1)
set_option maxRecDepth 100000 in
set_option maxHeartbeats 4000000 in
theorem c_Md_fieldOf_loop {n m : Nat} {h : aH} {σ : Nat → Int32} {ν : Int64} {α : Nat → Nat → Int32} {ns : List Sf} {x wi : Int32} {Q : aQ} (hM : Md h m σ ν α) (hs : mSc σ α ns) : ∀ (ts : List Sf) (i : Nat), ns.drop i = ts → i ≤ ns.length → Q (some (.int (oI (foF x wi ts i)))) h → Tri M_Md_fieldOf (a_rm 0 0 0) (a_Z 0 0 Q) 2 [(3, .int (nI i)), (0, .ref m), (1, .int x), (2, .int wi)] [] n h 0 0 := by
  intro ts
  induction ts with
  | nil =>
    intro i hts hi hQ
    have hi2 : i = ns.length := Nat.le_antisymm hi (List.drop_eq_nil_iff.mp hts)
    subst hi2
    refine T_iload_n (pc := 2) d_Md_fieldOf_2 rfl ?_
    refine T_aload_n (pc := 3) d_Md_fieldOf_3 rfl ?_
    refine T_get (pc := 4) d_Md_fieldOf_4 sF_Md_75_Md hM.1 rfl ?_
    refine T_icmp_ge (tgt := 47) (pc := 7) d_Md_fieldOf_7 (by decide) (fun q7 => ?_) (fun q7 => ?_)
    · refine T_iconst (v := -1) (pc := 47) d_Md_fieldOf_47 rfl ?_
      refine T_iret (pc := 48) d_Md_fieldOf_48 rfl rfl (Nat.le_refl _) ?_
      exact hQ
    · exact absurd (by rw [hs.2.1]; exact Int32.le_refl _) q7
  | cons t ts ih =>
    intro i hts hi hQ
    have hs4 := hs.1
    have hi2 : i < ns.length := by
      have := congrArg List.length hts
      simp at this
      omega
    have ht : ns[i]? = some t := by
      have := congrArg (fun l => l[0]?) hts
      simpa using this
    have hts2 : ns.drop (i + 1) = ts := by
      rw [← List.drop_drop, hts]
      rfl
    obtain ⟨b1, b2, b3, t1, t30, t3⟩ := hs.2.2 i t ht
    have e1 : α 1 (nI i).toNatClampNeg = nI t.1 := by rw [nI_clamp (by omega)]; exact b1
    have e2 : α 2 (nI i).toNatClampNeg = nI t.2.1 := by rw [nI_clamp (by omega)]; exact b2
    refine T_iload_n (pc := 2) d_Md_fieldOf_2 rfl ?_
    refine T_aload_n (pc := 3) d_Md_fieldOf_3 rfl ?_
    refine T_get (pc := 4) d_Md_fieldOf_4 sF_Md_75_Md hM.1 rfl ?_
    refine T_icmp_ge (tgt := 47) (pc := 7) d_Md_fieldOf_7 (by decide) (fun q7 => ?_) (fun q7 => ?_)
    · exact absurd q7 (by rw [hs.2.1]; exact nI_ge hi2 (by omega))
    · refine T_aload_n (pc := 10) d_Md_fieldOf_10 rfl ?_
      refine T_get (pc := 11) d_Md_fieldOf_11 sF_Md_7_Md hM.1 rfl ?_
      refine T_iload_n (pc := 14) d_Md_fieldOf_14 rfl ?_
      refine T_iald (N := 4) (pc := 15) d_Md_fieldOf_15 (hM.arr 1) (vp_in_nI (by omega) (by decide)) ?_
      refine T_top (e1) ?_
      refine T_iload_n (pc := 16) d_Md_fieldOf_16 rfl ?_
      refine T_icmp_ne (tgt := 41) (pc := 17) d_Md_fieldOf_17 (by decide) (fun q17 => ?_) (fun q17 => ?_)
      · refine T_iinc (pc := 41) d_Md_fieldOf_41 rfl (nI_1 i) (Nat.le_of_ble_eq_true rfl) rfl ?_
        refine T_goto (tgt := 2) (pc := 44) d_Md_fieldOf_44 (by decide) ?_
        have hno : ¬ (nI t.1 = x ∧ wiN t = wi) := by
          rintro ⟨z1, z2⟩
          first
            | exact q17 z1
            | (have ew : wiN t = 5 := by rw [wiN, if_pos ((nI_eq (a := t.2.1) (b := 2) (by omega) (by decide)).mp q27)]
               rw [ew] at z2
               exact q36 z2)
            | (have ew : wiN t = 0 := by rw [wiN, if_neg (fun z => q27 (by rw [z]; rfl))]
               rw [ew] at z2
               exact q36 z2)
        rw [foF, if_neg hno] at hQ
        exact ih (i + 1) hts2 hi2 hQ
      · refine T_aload_n (pc := 20) d_Md_fieldOf_20 rfl ?_
        refine T_get (pc := 21) d_Md_fieldOf_21 sF_Md_13_Md hM.1 rfl ?_
        refine T_iload_n (pc := 24) d_Md_fieldOf_24 rfl ?_
        refine T_iald (N := 4) (pc := 25) d_Md_fieldOf_25 (hM.arr 2) (vp_in_nI (by omega) (by decide)) ?_
        refine T_top (e2) ?_
        refine T_iconst (v := 2) (pc := 26) d_Md_fieldOf_26 rfl ?_
        refine T_icmp_ne (tgt := 34) (pc := 27) d_Md_fieldOf_27 (by decide) (fun q27 => ?_) (fun q27 => ?_)
        · refine T_iconst (v := 0) (pc := 34) d_Md_fieldOf_34 rfl ?_
          refine T_iload_n (pc := 35) d_Md_fieldOf_35 rfl ?_
          refine T_icmp_ne (tgt := 41) (pc := 36) d_Md_fieldOf_36 (by decide) (fun q36 => ?_) (fun q36 => ?_)
          · refine T_iinc (pc := 41) d_Md_fieldOf_41 rfl (nI_1 i) (Nat.le_of_ble_eq_true rfl) rfl ?_
            refine T_goto (tgt := 2) (pc := 44) d_Md_fieldOf_44 (by decide) ?_
            have hno : ¬ (nI t.1 = x ∧ wiN t = wi) := by
              rintro ⟨z1, z2⟩
              first
                | exact q17 z1
                | (have ew : wiN t = 5 := by rw [wiN, if_pos ((nI_eq (a := t.2.1) (b := 2) (by omega) (by decide)).mp q27)]
                   rw [ew] at z2
                   exact q36 z2)
                | (have ew : wiN t = 0 := by rw [wiN, if_neg (fun z => q27 (by rw [z]; rfl))]
                   rw [ew] at z2
                   exact q36 z2)
            rw [foF, if_neg hno] at hQ
            exact ih (i + 1) hts2 hi2 hQ
          · refine T_iload_n (pc := 39) d_Md_fieldOf_39 rfl ?_
            refine T_iret (pc := 40) d_Md_fieldOf_40 rfl rfl (Nat.le_refl _) ?_
            have hyes : nI t.1 = x ∧ wiN t = wi := by
              refine ⟨q17, ?_⟩
              first
                | (have ew : wiN t = 5 := by rw [wiN, if_pos ((nI_eq (a := t.2.1) (b := 2) (by omega) (by decide)).mp q27)]
                   exact ew.trans q36)
                | (have ew : wiN t = 0 := by rw [wiN, if_neg (fun z => q27 (by rw [z]; rfl))]
                   exact ew.trans q36)
            rw [foF, if_pos hyes] at hQ
            exact hQ
        · refine T_iconst (v := 5) (pc := 30) d_Md_fieldOf_30 rfl ?_
          refine T_goto (tgt := 35) (pc := 31) d_Md_fieldOf_31 (by decide) ?_
          refine T_iload_n (pc := 35) d_Md_fieldOf_35 rfl ?_
          refine T_icmp_ne (tgt := 41) (pc := 36) d_Md_fieldOf_36 (by decide) (fun q36 => ?_) (fun q36 => ?_)
          · refine T_iinc (pc := 41) d_Md_fieldOf_41 rfl (nI_1 i) (Nat.le_of_ble_eq_true rfl) rfl ?_
            refine T_goto (tgt := 2) (pc := 44) d_Md_fieldOf_44 (by decide) ?_
            have hno : ¬ (nI t.1 = x ∧ wiN t = wi) := by
              rintro ⟨z1, z2⟩
              first
                | exact q17 z1
                | (have ew : wiN t = 5 := by rw [wiN, if_pos ((nI_eq (a := t.2.1) (b := 2) (by omega) (by decide)).mp q27)]
                   rw [ew] at z2
                   exact q36 z2)
                | (have ew : wiN t = 0 := by rw [wiN, if_neg (fun z => q27 (by rw [z]; rfl))]
                   rw [ew] at z2
                   exact q36 z2)
            rw [foF, if_neg hno] at hQ
            exact ih (i + 1) hts2 hi2 hQ
          · refine T_iload_n (pc := 39) d_Md_fieldOf_39 rfl ?_
            refine T_iret (pc := 40) d_Md_fieldOf_40 rfl rfl (Nat.le_refl _) ?_
            have hyes : nI t.1 = x ∧ wiN t = wi := by
              refine ⟨q17, ?_⟩
              first
                | (have ew : wiN t = 5 := by rw [wiN, if_pos ((nI_eq (a := t.2.1) (b := 2) (by omega) (by decide)).mp q27)]
                   exact ew.trans q36)
                | (have ew : wiN t = 0 := by rw [wiN, if_neg (fun z => q27 (by rw [z]; rfl))]
                   exact ew.trans q36)
            rw [foF, if_pos hyes] at hQ
            exact hQ
set_option maxRecDepth 100000 in
set_option maxHeartbeats 4000000 in
theorem c_Md_fieldOf {n m : Nat} {h : aH} {σ : Nat → Int32} {ν : Int64} {α : Nat → Nat → Int32} {ns : List Sf} {x wi : Int32} (hM : Md h m σ ν α) (hs : mSc σ α ns) : Con M_Md_fieldOf 0 0 0 n [.ref m, .int x, .int wi] h (fun r h' => r = some (.int (oI (foF x wi ns 0))) ∧ h' = h) := by
  refine Con.of rfl (Nat.le_of_ble_eq_true rfl) ?_
  refine T_iconst (v := 0) (pc := 0) d_Md_fieldOf_0 rfl ?_
  refine T_istore_n (pc := 1) d_Md_fieldOf_1 rfl (Nat.le_of_ble_eq_true rfl) rfl ?_
  exact c_Md_fieldOf_loop hM hs ns 0 List.drop_zero (Nat.zero_le _) ⟨rfl, rfl⟩
