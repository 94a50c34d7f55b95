/-! OnceWire$Server: run, reply. -/
abbrev svO (s w fm L O : Nat) (tot run : Int32) : List Value := [.ref w, .ref fm, .ref (s + 1), .ref (s + 4), .ref (s + 6), .ref (s + 7), .ref (s + 8), .int (nI L), .int (nI O), .int tot, .int run]
def slN (L O : Nat) : Nat := if L < 4 then L else O
def slL (L : Nat) : Nat := if L < 4 then L + 1 else L
def slO (L O : Nat) : Nat := if L < 4 then O else (O + 1) % 4
def adS (sl : List Kn) (old : Nat) (x : Kn) : List Kn := if sl.length < 4 then sl ++ [x] else sl.set old x
theorem adS_len (sl : List Kn) (old : Nat) (x : Kn) : (adS sl old x).length = slL sl.length := by
  unfold adS slL
  split <;> simp
theorem adS_at {sl : List Kn} {old : Nat} {x m : Kn} {i : Nat} (ho : old < 4) (hl : sl.length ≤ 4) (h : (adS sl old x)[i]? = some m) : (i = slN sl.length old ∧ m = x) ∨ (i ≠ slN sl.length old ∧ sl[i]? = some m) := by
  unfold adS at h
  unfold slN
  split at h
  · rename_i hlt
    rw [if_pos hlt]
    by_cases hi : i = sl.length
    · subst hi
      rw [List.getElem?_append_right (Nat.le_refl _), Nat.sub_self] at h
      cases h
      exact Or.inl ⟨rfl, rfl⟩
    · have hi2 : i < sl.length := by
        have := (List.getElem?_eq_some_iff.mp h).1
        simp at this
        omega
      rw [List.getElem?_append_left hi2] at h
      exact Or.inr ⟨hi, h⟩
  · rename_i hlt
    rw [if_neg hlt]
    by_cases hi : i = old
    · subst hi
      rw [List.getElem?_set_self (by omega)] at h
      cases h
      exact Or.inl ⟨rfl, rfl⟩
    · rw [List.getElem?_set_ne (Ne.symm hi)] at h
      exact Or.inr ⟨hi, h⟩
def repR (xid st res : Int32) : List Int32 := wby xid ++ (wby 1 ++ (wby st ++ (if st = 0 then wby res else [])))
def repB (xid st res : Int32) : List Int32 := wrapL (repR xid st res).length (repR xid st res)
theorem repR_len (xid st res : Int32) : (repR xid st res).length = if st = 0 then 16 else 12 := by
  unfold repR
  split <;> simp [wby_len]
theorem wrapL_small {l : List Int32} (h1 : 0 < l.length) (h2 : l.length ≤ 16) : wrapL l.length l = wby (nI l.length + (-2147483648)) ++ l := by
  obtain ⟨k, hk⟩ : ∃ k, l.length = k + 1 := ⟨l.length - 1, by omega⟩
  have : wrapL (k + 1) l = wby (nI l.length + (-2147483648)) ++ l := by
    rw [wrapL, if_neg (by omega), if_pos h2]
  rw [← hk] at this
  exact this
theorem repB_len (xid st res : Int32) : (repB xid st res).length ≤ 20 := by
  have h := repR_len xid st res
  unfold repB
  rw [wrapL_small (by rw [h]; split <;> decide) (by rw [h]; split <;> decide), List.length_append, wby_len, h]
  split <;> decide
def rnR (k : Nat) (tot d : Int32) : Int32 := if k = 1 then tot + d else if k = 2 then tot else if k = 3 then tot else 0
def rnT (k : Nat) (tot d : Int32) : Int32 := if k = 1 then tot + d else if k = 2 then d else tot
set_option maxRecDepth 100000 in
set_option maxHeartbeats 4000000 in
theorem c_Server_run {n s w fm L O k : Nat} {tot run d : Int32} {h : aH} (hk : k ≤ 3) (hX : h s = some (.inr (6, svO s w fm L O tot run))) : Con M_Server_run 0 0 0 n [.ref s, .int (nI k), .int d] h (fun r h' => r = some (.int (rnR k tot d)) ∧ h' s = some (.inr (6, svO s w fm L O (rnT k tot d) (run + 1))) ∧ ∀ q, q ≠ s → h' q = h q) := by
  refine Con.of rfl (Nat.le_of_ble_eq_true rfl) ?_
  rcases (show k = 0 ∨ k = 1 ∨ k = 2 ∨ k = 3 by omega) with rfl | rfl | rfl | rfl
  · refine T_aload_n (pc := 0) d_Server_run_0 rfl ?_
    refine T_dup (pc := 1) d_Server_run_1 rfl ?_
    refine T_get (pc := 2) d_Server_run_2 sF_Server_47_Server hX rfl ?_
    refine T_iconst (v := 1) (pc := 5) d_Server_run_5 rfl ?_
    refine T_iadd (pc := 6) d_Server_run_6 ?_
    refine T_put (pc := 7) d_Server_run_7 sF_Server_47_Server hX (Nat.le_of_ble_eq_true rfl) (a_fit_i _) (T_up (fun h7x1 g7x1 o7x1 => ?_))
    refine T_aload_n (pc := 10) d_Server_run_10 rfl ?_
    refine T_get (pc := 11) d_Server_run_11 sF_Server_44_Server g7x1 rfl ?_
    refine T_istore_n (pc := 14) d_Server_run_14 rfl (Nat.le_of_ble_eq_true rfl) rfl ?_
    refine T_iload_n (pc := 15) d_Server_run_15 rfl ?_
    refine T_tableOut (tgt := 71) (pc := 16) d_Server_run_16 (by decide) (by decide) ?_
    refine T_iconst (v := 0) (pc := 71) d_Server_run_71 rfl ?_
    refine T_iret (pc := 72) d_Server_run_72 rfl rfl (Nat.le_refl _) ?_
    exact ⟨rfl, g7x1, fun q hq => o7x1 q hq⟩
  · refine T_aload_n (pc := 0) d_Server_run_0 rfl ?_
    refine T_dup (pc := 1) d_Server_run_1 rfl ?_
    refine T_get (pc := 2) d_Server_run_2 sF_Server_47_Server hX rfl ?_
    refine T_iconst (v := 1) (pc := 5) d_Server_run_5 rfl ?_
    refine T_iadd (pc := 6) d_Server_run_6 ?_
    refine T_put (pc := 7) d_Server_run_7 sF_Server_47_Server hX (Nat.le_of_ble_eq_true rfl) (a_fit_i _) (T_up (fun h7x1 g7x1 o7x1 => ?_))
    refine T_aload_n (pc := 10) d_Server_run_10 rfl ?_
    refine T_get (pc := 11) d_Server_run_11 sF_Server_44_Server g7x1 rfl ?_
    refine T_istore_n (pc := 14) d_Server_run_14 rfl (Nat.le_of_ble_eq_true rfl) rfl ?_
    refine T_iload_n (pc := 15) d_Server_run_15 rfl ?_
    refine T_tableIn (tgt := 44) (off := 28) (pc := 16) d_Server_run_16 (by decide) (by decide) rfl (by decide) ?_
    refine T_aload_n (pc := 44) d_Server_run_44 rfl ?_
    refine T_dup (pc := 45) d_Server_run_45 rfl ?_
    refine T_get (pc := 46) d_Server_run_46 sF_Server_44_Server g7x1 rfl ?_
    refine T_iload_n (pc := 49) d_Server_run_49 rfl ?_
    refine T_iadd (pc := 50) d_Server_run_50 ?_
    refine T_put (pc := 51) d_Server_run_51 sF_Server_44_Server g7x1 (Nat.le_of_ble_eq_true rfl) (a_fit_i _) (T_up (fun h51x2 g51x2 o51x2 => ?_))
    refine T_aload_n (pc := 54) d_Server_run_54 rfl ?_
    refine T_get (pc := 55) d_Server_run_55 sF_Server_44_Server g51x2 rfl ?_
    refine T_iret (pc := 58) d_Server_run_58 rfl rfl (Nat.le_refl _) ?_
    exact ⟨rfl, g51x2, fun q hq => (o51x2 q hq).trans (o7x1 q hq)⟩
  · refine T_aload_n (pc := 0) d_Server_run_0 rfl ?_
    refine T_dup (pc := 1) d_Server_run_1 rfl ?_
    refine T_get (pc := 2) d_Server_run_2 sF_Server_47_Server hX rfl ?_
    refine T_iconst (v := 1) (pc := 5) d_Server_run_5 rfl ?_
    refine T_iadd (pc := 6) d_Server_run_6 ?_
    refine T_put (pc := 7) d_Server_run_7 sF_Server_47_Server hX (Nat.le_of_ble_eq_true rfl) (a_fit_i _) (T_up (fun h7x1 g7x1 o7x1 => ?_))
    refine T_aload_n (pc := 10) d_Server_run_10 rfl ?_
    refine T_get (pc := 11) d_Server_run_11 sF_Server_44_Server g7x1 rfl ?_
    refine T_istore_n (pc := 14) d_Server_run_14 rfl (Nat.le_of_ble_eq_true rfl) rfl ?_
    refine T_iload_n (pc := 15) d_Server_run_15 rfl ?_
    refine T_tableIn (tgt := 59) (off := 43) (pc := 16) d_Server_run_16 (by decide) (by decide) rfl (by decide) ?_
    refine T_aload_n (pc := 59) d_Server_run_59 rfl ?_
    refine T_iload_n (pc := 60) d_Server_run_60 rfl ?_
    refine T_put (pc := 61) d_Server_run_61 sF_Server_44_Server g7x1 (Nat.le_of_ble_eq_true rfl) (a_fit_i _) (T_up (fun h61x2 g61x2 o61x2 => ?_))
    refine T_iload_n (pc := 64) d_Server_run_64 rfl ?_
    refine T_iret (pc := 65) d_Server_run_65 rfl rfl (Nat.le_refl _) ?_
    exact ⟨rfl, g61x2, fun q hq => (o61x2 q hq).trans (o7x1 q hq)⟩
  · refine T_aload_n (pc := 0) d_Server_run_0 rfl ?_
    refine T_dup (pc := 1) d_Server_run_1 rfl ?_
    refine T_get (pc := 2) d_Server_run_2 sF_Server_47_Server hX rfl ?_
    refine T_iconst (v := 1) (pc := 5) d_Server_run_5 rfl ?_
    refine T_iadd (pc := 6) d_Server_run_6 ?_
    refine T_put (pc := 7) d_Server_run_7 sF_Server_47_Server hX (Nat.le_of_ble_eq_true rfl) (a_fit_i _) (T_up (fun h7x1 g7x1 o7x1 => ?_))
    refine T_aload_n (pc := 10) d_Server_run_10 rfl ?_
    refine T_get (pc := 11) d_Server_run_11 sF_Server_44_Server g7x1 rfl ?_
    refine T_istore_n (pc := 14) d_Server_run_14 rfl (Nat.le_of_ble_eq_true rfl) rfl ?_
    refine T_iload_n (pc := 15) d_Server_run_15 rfl ?_
    refine T_tableIn (tgt := 66) (off := 50) (pc := 16) d_Server_run_16 (by decide) (by decide) rfl (by decide) ?_
    refine T_aload_n (pc := 66) d_Server_run_66 rfl ?_
    refine T_get (pc := 67) d_Server_run_67 sF_Server_44_Server g7x1 rfl ?_
    refine T_iret (pc := 70) d_Server_run_70 rfl rfl (Nat.le_refl _) ?_
    exact ⟨rfl, g7x1, fun q hq => o7x1 q hq⟩
set_option maxRecDepth 100000 in
set_option maxHeartbeats 4000000 in
theorem c_Server_slotForNew {n s w fm L O : Nat} {tot run : Int32} {h : aH} (hL : L ≤ 4) (hO : O < 4) (hX : h s = some (.inr (6, svO s w fm L O tot run))) : Con M_Server_slotForNew 0 0 0 n [.ref s] h (fun r h' => r = some (.int (nI (slN L O))) ∧ h' s = some (.inr (6, svO s w fm (slL L) (slO L O) tot run)) ∧ ∀ q, q ≠ s → h' q = h q) := by
  refine Con.of rfl (Nat.le_of_ble_eq_true rfl) ?_
  refine T_aload_n (pc := 0) d_Server_slotForNew_0 rfl ?_
  refine T_get (pc := 1) d_Server_slotForNew_1 sF_Server_37_Server hX rfl ?_
  refine T_iconst (v := 4) (pc := 4) d_Server_slotForNew_4 rfl ?_
  refine T_icmp_ge (tgt := 25) (pc := 5) d_Server_slotForNew_5 (by decide) (fun q5 => ?_) (fun q5 => ?_)
  · refine T_aload_n (pc := 25) d_Server_slotForNew_25 rfl ?_
    refine T_get (pc := 26) d_Server_slotForNew_26 sF_Server_41_Server hX rfl ?_
    refine T_istore_n (pc := 29) d_Server_slotForNew_29 rfl (Nat.le_of_ble_eq_true rfl) rfl ?_
    refine T_aload_n (pc := 30) d_Server_slotForNew_30 rfl ?_
    refine T_aload_n (pc := 31) d_Server_slotForNew_31 rfl ?_
    refine T_get (pc := 32) d_Server_slotForNew_32 sF_Server_41_Server hX rfl ?_
    refine T_iconst (v := 1) (pc := 35) d_Server_slotForNew_35 rfl ?_
    refine T_iadd (pc := 36) d_Server_slotForNew_36 ?_
    refine T_iconst (v := 4) (pc := 37) d_Server_slotForNew_37 rfl ?_
    refine T_irem (pc := 38) d_Server_slotForNew_38 (by decide) ?_
    refine T_put (pc := 39) d_Server_slotForNew_39 sF_Server_41_Server hX (Nat.le_of_ble_eq_true rfl) (a_fit_i _) (T_up (fun h39x1 g39x1 o39x1 => ?_))
    refine T_iload_n (pc := 42) d_Server_slotForNew_42 rfl ?_
    refine T_iret (pc := 43) d_Server_slotForNew_43 rfl rfl (Nat.le_refl _) ?_
    have hlt : ¬ L < 4 := by have := (nI_leI (a := 4) (b := L) (by decide) (by omega)).mp q5; omega
    refine ⟨by rw [slN, if_neg hlt], ?_, o39x1⟩
    rw [g39x1, slL, slO, if_neg hlt, if_neg hlt]
    have e : (nI O + 1) - (nI O + 1) / 4 * 4 = nI ((O + 1) % 4) := by
      rw [nI_1]
      exact pk_rem (d := 4) (by omega) (by decide) (by decide)
    rw [e]
    rfl
  · refine T_aload_n (pc := 8) d_Server_slotForNew_8 rfl ?_
    refine T_dup (pc := 9) d_Server_slotForNew_9 rfl ?_
    refine T_get (pc := 10) d_Server_slotForNew_10 sF_Server_37_Server hX rfl ?_
    refine T_iconst (v := 1) (pc := 13) d_Server_slotForNew_13 rfl ?_
    refine T_iadd (pc := 14) d_Server_slotForNew_14 ?_
    refine T_put (pc := 15) d_Server_slotForNew_15 sF_Server_37_Server hX (Nat.le_of_ble_eq_true rfl) (a_fit_i _) (T_up (fun h15x2 g15x2 o15x2 => ?_))
    refine T_aload_n (pc := 18) d_Server_slotForNew_18 rfl ?_
    refine T_get (pc := 19) d_Server_slotForNew_19 sF_Server_37_Server g15x2 rfl ?_
    refine T_iconst (v := 1) (pc := 22) d_Server_slotForNew_22 rfl ?_
    refine T_isub (pc := 23) d_Server_slotForNew_23 ?_
    refine T_iret (pc := 24) d_Server_slotForNew_24 rfl rfl (Nat.le_refl _) ?_
    have hlt : L < 4 := by have := mt (nI_leI (a := 4) (b := L) (by decide) (by omega)).mpr q5; omega
    refine ⟨by rw [slN, if_pos hlt, nI_1, nI_pred], ?_, o15x2⟩
    rw [g15x2, slL, slO, if_pos hlt, if_pos hlt, nI_1]
    rfl
