/-! OnceWireModel: reset, digest, run. -/
theorem take_put {β : Type} (l : List β) (i : Nat) (e : β) (hi : i < l.length) : (l.set i e).take (i + 1) = l.take i ++ [e] := by
  rw [List.take_add_one, List.getElem?_set_self hi, List.take_set_of_le (Nat.le_refl _)]
  rfl
set_option maxRecDepth 100000 in
set_option maxHeartbeats 4000000 in
theorem c_Md_reset_loop {n m : Nat} {σ : Nat → Int32} {ν : Int64} {ns : List Sf} {Z : aZ} {d : Nat} (hd1 : 1 ≤ d) : ∀ (ts : List Sf) (i : Nat) (h : aH) (α : Nat → Nat → Int32) (vs : List (List Int32)), ns.drop i = ts → i ≤ ns.length → Md h m σ ν α → mSc σ α ns → mVa α 0 ns vs → (∀ h' α', Md h' m σ ν α' → mdO h h' m → aX [4, 5] α α' → mVa α' 0 ns (vs.take i ++ vnil ts) → (∀ q, q < 0 ∨ 0 + 4 ≤ q → α' 4 q = α 4 q) → (∀ q, q < 4 * 0 ∨ 4 * 0 + 16 ≤ q → α' 5 q = α 5 q) → Tri M_Md_reset (a_rm d 0 0) Z 21 [(1, .int (nI ns.length)), (0, .ref m)] [] n h' 0 0) → Tri M_Md_reset (a_rm d 0 0) Z 2 [(1, .int (nI i)), (0, .ref m)] [] n h 0 0 := by
  intro ts
  induction ts with
  | nil =>
    intro i h α vs hts hi hM hs hv hQ
    have hi2 : i = ns.length := Nat.le_antisymm hi (List.drop_eq_nil_iff.mp hts)
    subst hi2
    refine T_iload_n (pc := 2) d_Md_reset_2 rfl ?_
    refine T_aload_n (pc := 3) d_Md_reset_3 rfl ?_
    refine T_get (pc := 4) d_Md_reset_4 sF_Md_75_Md hM.1 rfl ?_
    refine T_icmp_ge (tgt := 21) (pc := 7) d_Md_reset_7 (by decide) (fun q7 => ?_) (fun q7 => ?_)
    · exact hQ h α hM mdO.rf aX.rf (by rw [← hv.1, List.take_length]; simpa [vnil] using hv) (fun _ _ => rfl) (fun _ _ => rfl)
    · exact absurd (by rw [hs.2.1]; exact Int32.le_refl _) q7
  | cons t ts ih =>
    intro i h α vs hts hi hM hs hv hQ
    have hs4 := hs.1
    have hi2 : i < ns.length := by
      have := congrArg List.length hts
      simp at this
      omega
    have ht : ns[i]? = some t := by
      have := congrArg (fun l => l[0]?) hts
      simpa using this
    have hts2 : ns.drop (i + 1) = ts := by
      rw [← List.drop_drop, hts]
      rfl
    have hvl := hv.1
    obtain ⟨w, hw⟩ : ∃ w, vs[i]? = some w := ⟨_, List.getElem?_eq_getElem (by omega)⟩
    have e3 : α 3 ((0 + i) % 4) = bI t.2.2 := by
      rw [show (0 + i) % 4 = i by omega]
      exact (hs.2.2 i t ht).2.2.1
    refine T_iload_n (pc := 2) d_Md_reset_2 rfl ?_
    refine T_aload_n (pc := 3) d_Md_reset_3 rfl ?_
    refine T_get (pc := 4) d_Md_reset_4 sF_Md_75_Md hM.1 rfl ?_
    refine T_icmp_ge (tgt := 21) (pc := 7) d_Md_reset_7 (by decide) (fun q7 => ?_) (fun q7 => ?_)
    · exact absurd q7 (by rw [hs.2.1]; exact nI_ge hi2 (by omega))
    · refine T_aload_n (pc := 10) d_Md_reset_10 rfl ?_
      refine T_iload_n (pc := 11) d_Md_reset_11 rfl ?_
      refine T_top (show nI i = nI (0 + i) by rw [Nat.zero_add]) ?_
      refine T_ivV (pc := 12) d_Md_reset_12 sI_Md_79 (c_Md_empty (r := 0 + i) (b := t.2.2) hM (by omega) e3) hM.1 rfl rfl ⟨hd1, by show 30 * (0 + 1) ≤ 30 * d; omega⟩ ⟨(Nat.le_of_ble_eq_true rfl), (Nat.le_of_ble_eq_true rfl)⟩ (Nat.le_of_ble_eq_true rfl) (fun r1 h1 q1 => ?_)
      obtain ⟨σ1, ν1, α1, M1, O1, rfl, rfl, rfl, rfl⟩ := q1
      refine T_iinc (pc := 15) d_Md_reset_15 rfl (nI_1 i) (Nat.le_of_ble_eq_true rfl) rfl ?_
      refine T_goto (tgt := 2) (pc := 18) d_Md_reset_18 (by decide) ?_
      exact ih (i + 1) _ _ _ hts2 hi2 M1 (hs.same rfl (mEm.ax 1 (by decide)) (mEm.ax 2 (by decide)) (mEm.ax 3 (by decide))) (hv.em ht hw) (fun h' α' k1 k2 k3 k4 k5 k6 => hQ h' α' k1 (O1.tr k2) (mEm.ax.tr k3) (by rw [take_put _ _ _ (by omega), List.append_assoc] at k4; exact k4) (fun q z => (k5 q z).trans (by rw [mEm.a4, pk_un (by omega)])) (fun q z => (k6 q z).trans (by rw [mEm.a5, pk_un (by omega)])))
set_option maxRecDepth 100000 in
set_option maxHeartbeats 4000000 in
theorem c_Md_readBody_loop {n m : Nat} {σ : Nat → Int32} {ν : Int64} {ns : List Sf} {Z : aZ} {d : Nat} (hd1 : 1 ≤ d) : ∀ (ts : List Sf) (i : Nat) (h : aH) (α : Nat → Nat → Int32) (vs : List (List Int32)), ns.drop i = ts → i ≤ ns.length → Md h m σ ν α → mSc σ α ns → mVa α 4 ns vs → (∀ h' α', Md h' m σ ν α' → mdO h h' m → aX [4, 5] α α' → mVa α' 4 ns (vs.take i ++ vnil ts) → (∀ q, q < 4 ∨ 4 + 4 ≤ q → α' 4 q = α 4 q) → (∀ q, q < 4 * 4 ∨ 4 * 4 + 16 ≤ q → α' 5 q = α 5 q) → Tri M_Md_readBody (a_rm d 0 0) Z 23 [(1, .int (nI ns.length)), (0, .ref m)] [] n h' 0 0) → Tri M_Md_readBody (a_rm d 0 0) Z 2 [(1, .int (nI i)), (0, .ref m)] [] n h 0 0 := by
  intro ts
  induction ts with
  | nil =>
    intro i h α vs hts hi hM hs hv hQ
    have hi2 : i = ns.length := Nat.le_antisymm hi (List.drop_eq_nil_iff.mp hts)
    subst hi2
    refine T_iload_n (pc := 2) d_Md_readBody_2 rfl ?_
    refine T_aload_n (pc := 3) d_Md_readBody_3 rfl ?_
    refine T_get (pc := 4) d_Md_readBody_4 sF_Md_75_Md hM.1 rfl ?_
    refine T_icmp_ge (tgt := 23) (pc := 7) d_Md_readBody_7 (by decide) (fun q7 => ?_) (fun q7 => ?_)
    · exact hQ h α hM mdO.rf aX.rf (by rw [← hv.1, List.take_length]; simpa [vnil] using hv) (fun _ _ => rfl) (fun _ _ => rfl)
    · exact absurd (by rw [hs.2.1]; exact Int32.le_refl _) q7
  | cons t ts ih =>
    intro i h α vs hts hi hM hs hv hQ
    have hs4 := hs.1
    have hi2 : i < ns.length := by
      have := congrArg List.length hts
      simp at this
      omega
    have ht : ns[i]? = some t := by
      have := congrArg (fun l => l[0]?) hts
      simpa using this
    have hts2 : ns.drop (i + 1) = ts := by
      rw [← List.drop_drop, hts]
      rfl
    have hvl := hv.1
    obtain ⟨w, hw⟩ : ∃ w, vs[i]? = some w := ⟨_, List.getElem?_eq_getElem (by omega)⟩
    have e3 : α 3 ((4 + i) % 4) = bI t.2.2 := by
      rw [show (4 + i) % 4 = i by omega]
      exact (hs.2.2 i t ht).2.2.1
    refine T_iload_n (pc := 2) d_Md_readBody_2 rfl ?_
    refine T_aload_n (pc := 3) d_Md_readBody_3 rfl ?_
    refine T_get (pc := 4) d_Md_readBody_4 sF_Md_75_Md hM.1 rfl ?_
    refine T_icmp_ge (tgt := 23) (pc := 7) d_Md_readBody_7 (by decide) (fun q7 => ?_) (fun q7 => ?_)
    · exact absurd q7 (by rw [hs.2.1]; exact nI_ge hi2 (by omega))
    · refine T_aload_n (pc := 10) d_Md_readBody_10 rfl ?_
      refine T_iconst (v := 4) (pc := 11) d_Md_readBody_11 rfl ?_
      refine T_iload_n (pc := 12) d_Md_readBody_12 rfl ?_
      refine T_iadd (pc := 13) d_Md_readBody_13 ?_
      refine T_top (show 4 + nI i = nI (4 + i) from nI_add 4 i) ?_
      refine T_ivV (pc := 14) d_Md_readBody_14 sI_Md_79 (c_Md_empty (r := 4 + i) (b := t.2.2) hM (by omega) e3) hM.1 rfl rfl ⟨hd1, by show 30 * (0 + 1) ≤ 30 * d; omega⟩ ⟨(Nat.le_of_ble_eq_true rfl), (Nat.le_of_ble_eq_true rfl)⟩ (Nat.le_of_ble_eq_true rfl) (fun r1 h1 q1 => ?_)
      obtain ⟨σ1, ν1, α1, M1, O1, rfl, rfl, rfl, rfl⟩ := q1
      refine T_iinc (pc := 17) d_Md_readBody_17 rfl (nI_1 i) (Nat.le_of_ble_eq_true rfl) rfl ?_
      refine T_goto (tgt := 2) (pc := 20) d_Md_readBody_20 (by decide) ?_
      exact ih (i + 1) _ _ _ hts2 hi2 M1 (hs.same rfl (mEm.ax 1 (by decide)) (mEm.ax 2 (by decide)) (mEm.ax 3 (by decide))) (hv.em ht hw) (fun h' α' k1 k2 k3 k4 k5 k6 => hQ h' α' k1 (O1.tr k2) (mEm.ax.tr k3) (by rw [take_put _ _ _ (by omega), List.append_assoc] at k4; exact k4) (fun q z => (k5 q z).trans (by rw [mEm.a4, pk_un (by omega)])) (fun q z => (k6 q z).trans (by rw [mEm.a5, pk_un (by omega)])))
set_option maxRecDepth 100000 in
set_option maxHeartbeats 4000000 in
theorem c_Md_reset {n m : Nat} {h : aH} {σ : Nat → Int32} {ν : Int64} {α : Nat → Nat → Int32} {ns : List Sf} {vs : List (List Int32)} (hM : Md h m σ ν α) (hs : mSc σ α ns) (hv : mVa α 0 ns vs) : Con M_Md_reset 1 0 0 n [.ref m] h (mQ h m (fun r σ' ν' α' => r = none ∧ ν' = ν ∧ σ' = σ ∧ aX [4, 5] α α' ∧ mVa α' 0 ns (vnil ns) ∧ (∀ q, q < 0 ∨ 0 + 4 ≤ q → α' 4 q = α 4 q) ∧ (∀ q, q < 4 * 0 ∨ 4 * 0 + 16 ≤ q → α' 5 q = α 5 q))) := by
  refine Con.of rfl (Nat.le_of_ble_eq_true rfl) ?_
  refine T_iconst (v := 0) (pc := 0) d_Md_reset_0 rfl ?_
  refine T_istore_n (pc := 1) d_Md_reset_1 rfl (Nat.le_of_ble_eq_true rfl) rfl ?_
  refine c_Md_reset_loop (Nat.le_refl _) ns 0 h α vs List.drop_zero (Nat.zero_le _) hM hs hv (fun h' α' k1 k2 k3 k4 k5 k6 => ?_)
  refine T_vret (pc := 21) d_Md_reset_21 rfl rfl (Nat.le_refl _) ?_
  exact ⟨_, _, _, k1, k2, rfl, rfl, rfl, k3, k4, k5, k6⟩
set_option maxRecDepth 100000 in
set_option maxHeartbeats 4000000 in
theorem c_Md_digest_in {n m i : Nat} {h : aH} {σ : Nat → Int32} {ν : Int64} {α : Nat → Nat → Int32} {R : Room} {Z : aZ} {w : List Int32} (hM : Md h m σ ν α) (hi : i < 4) (v1 : α 4 (4 + i) = nI w.length) (v2 : w.length ≤ 4) (v4 : Rw (α 5) (4 * (4 + i)) w) : ∀ (us : List Int32) (j : Nat) (d : Int32), w.drop j = us → j ≤ w.length → Tri M_Md_digest R Z 78 [(3, .int (nI w.length)), (1, .int (dgI d us)), (2, .int (nI i)), (0, .ref m)] [] n h 0 0 → Tri M_Md_digest R Z 41 [(3, .int (nI j)), (1, .int d), (2, .int (nI i)), (0, .ref m)] [] n h 0 0 := by
  have e4 : (4 : Int32) + nI i = nI (4 + i) := nI_add 4 i
  have em : α 4 (4 + nI i).toNatClampNeg = nI w.length := by rw [e4, nI_clamp (by omega)]; exact v1
  intro us
  induction us with
  | nil =>
    intro j d hus hj hQ
    have hj2 : j = w.length := Nat.le_antisymm hj (List.drop_eq_nil_iff.mp hus)
    subst hj2
    refine T_iload_n (pc := 41) d_Md_digest_41 rfl ?_
    refine T_aload_n (pc := 42) d_Md_digest_42 rfl ?_
    refine T_get (pc := 43) d_Md_digest_43 sF_Md_20_Md hM.1 rfl ?_
    refine T_iconst (v := 4) (pc := 46) d_Md_digest_46 rfl ?_
    refine T_iload_n (pc := 47) d_Md_digest_47 rfl ?_
    refine T_iadd (pc := 48) d_Md_digest_48 ?_
    refine T_iald (N := 8) (pc := 49) d_Md_digest_49 (hM.arr 4) (by rw [e4]; exact vp_in_nI (by omega) (by decide)) ?_
    refine T_icmp_ge (tgt := 78) (pc := 50) d_Md_digest_50 (by decide) (fun q50 => ?_) (fun q50 => ?_)
    · exact hQ
    · exact absurd (by rw [em]; exact Int32.le_refl _) q50
  | cons x us ih =>
    intro j d hus hj hQ
    have hj2 : j < w.length := by
      have := congrArg List.length hus
      simp at this
      omega
    have hx : w[j]? = some x := by
      have := congrArg (fun l => l[0]?) hus
      simpa using this
    have hus2 : w.drop (j + 1) = us := by
      rw [← List.drop_drop, hus]
      rfl
    have e5 : (16 : Int32) + 4 * nI i + nI j = nI (4 * (4 + i) + j) := by
      rw [show (4 : Int32) * nI i = nI (4 * i) from pk_mul 4 i, show (16 : Int32) + nI (4 * i) = nI (16 + 4 * i) from nI_add 16 _, nI_add, show 16 + 4 * i + j = 4 * (4 + i) + j by omega]
    have hx5 : α 5 (16 + 4 * nI i + nI j).toNatClampNeg = x := by
      rw [e5, nI_clamp (by omega)]
      have := v4 j hj2
      rw [hx] at this
      exact (Option.some.inj this).symm
    refine T_iload_n (pc := 41) d_Md_digest_41 rfl ?_
    refine T_aload_n (pc := 42) d_Md_digest_42 rfl ?_
    refine T_get (pc := 43) d_Md_digest_43 sF_Md_20_Md hM.1 rfl ?_
    refine T_iconst (v := 4) (pc := 46) d_Md_digest_46 rfl ?_
    refine T_iload_n (pc := 47) d_Md_digest_47 rfl ?_
    refine T_iadd (pc := 48) d_Md_digest_48 ?_
    refine T_iald (N := 8) (pc := 49) d_Md_digest_49 (hM.arr 4) (by rw [e4]; exact vp_in_nI (by omega) (by decide)) ?_
    refine T_icmp_ge (tgt := 78) (pc := 50) d_Md_digest_50 (by decide) (fun q50 => ?_) (fun q50 => ?_)
    · exact absurd q50 (by rw [em]; exact nI_ge hj2 (by omega))
    · refine T_bipush (v := 31) (pc := 53) d_Md_digest_53 rfl ?_
      refine T_iload_n (pc := 55) d_Md_digest_55 rfl ?_
      refine T_imul (pc := 56) d_Md_digest_56 ?_
      refine T_aload_n (pc := 57) d_Md_digest_57 rfl ?_
      refine T_get (pc := 58) d_Md_digest_58 sF_Md_23_Md hM.1 rfl ?_
      refine T_bipush (v := 16) (pc := 61) d_Md_digest_61 rfl ?_
      refine T_iconst (v := 4) (pc := 63) d_Md_digest_63 rfl ?_
      refine T_iload_n (pc := 64) d_Md_digest_64 rfl ?_
      refine T_imul (pc := 65) d_Md_digest_65 ?_
      refine T_iadd (pc := 66) d_Md_digest_66 ?_
      refine T_iload_n (pc := 67) d_Md_digest_67 rfl ?_
      refine T_iadd (pc := 68) d_Md_digest_68 ?_
      refine T_iald (N := 32) (pc := 69) d_Md_digest_69 (hM.arr 5) (by rw [e5]; exact vp_in_nI (by omega) (by decide)) ?_
      refine T_top (hx5) ?_
      refine T_iadd (pc := 70) d_Md_digest_70 ?_
      refine T_istore_n (pc := 71) d_Md_digest_71 rfl (Nat.le_of_ble_eq_true rfl) rfl ?_
      refine T_iinc (pc := 72) d_Md_digest_72 rfl (nI_1 j) (Nat.le_of_ble_eq_true rfl) rfl ?_
      refine T_goto (tgt := 41) (pc := 75) d_Md_digest_75 (by decide) ?_
      exact ih (j + 1) (31 * d + x) hus2 hj2 hQ
set_option maxRecDepth 100000 in
set_option maxHeartbeats 4000000 in
theorem c_Md_digest_out {n m : Nat} {h : aH} {σ : Nat → Int32} {ν : Int64} {α : Nat → Nat → Int32} {ns : List Sf} {vs : List (List Int32)} (hM : Md h m σ ν α) (hs : mSc σ α ns) (hv : mVa α 4 ns vs) {Q : aQ} : ∀ (ts : List Sf) (us : List (List Int32)) (i : Nat) (d : Int32), ns.drop i = ts → vs.drop i = us → i ≤ ns.length → Q (some (.int (dgF ts us d))) h → Tri M_Md_digest (a_rm 0 0 0) (a_Z 0 0 Q) 4 [(2, .int (nI i)), (1, .int d), (0, .ref m)] [] n h 0 0 := by
  intro ts
  induction ts with
  | nil =>
    intro us i d hts hus hi hQ
    have hi2 : i = ns.length := Nat.le_antisymm hi (List.drop_eq_nil_iff.mp hts)
    subst hi2
    have e : dgF [] us d = d := by cases us <;> rfl
    rw [e] at hQ
    refine T_iload_n (pc := 4) d_Md_digest_4 rfl ?_
    refine T_aload_n (pc := 5) d_Md_digest_5 rfl ?_
    refine T_get (pc := 6) d_Md_digest_6 sF_Md_75_Md hM.1 rfl ?_
    refine T_icmp_ge (tgt := 84) (pc := 9) d_Md_digest_9 (by decide) (fun q9 => ?_) (fun q9 => ?_)
    · refine T_iload_n (pc := 84) d_Md_digest_84 rfl ?_
      refine T_iret (pc := 85) d_Md_digest_85 rfl rfl (Nat.le_refl _) ?_
      exact hQ
    · exact absurd (by rw [hs.2.1]; exact Int32.le_refl _) q9
  | cons t ts ih =>
    intro us i d hts hus hi hQ
    have hs4 := hs.1
    have hi2 : i < ns.length := by
      have := congrArg List.length hts
      simp at this
      omega
    have ht : ns[i]? = some t := by
      have := congrArg (fun l => l[0]?) hts
      simpa using this
    have hts2 : ns.drop (i + 1) = ts := by
      rw [← List.drop_drop, hts]
      rfl
    have hvl := hv.1
    obtain ⟨w, hw⟩ : ∃ w, vs[i]? = some w := ⟨_, List.getElem?_eq_getElem (by omega)⟩
    have hus2 : us = w :: vs.drop (i + 1) := by
      rw [← hus, List.drop_eq_getElem_cons (by omega)]
      congr 1
      exact Option.some.inj ((List.getElem?_eq_getElem (by omega)).symm.trans hw)
    subst hus2
    rw [dgF] at hQ
    obtain ⟨v1, v2, v3, v4⟩ := hv.2 i t w ht hw
    have e3 : α 3 (nI i).toNatClampNeg = bI t.2.2 := by rw [nI_clamp (by omega)]; exact (hs.2.2 i t ht).2.2.1
    have e4 : (4 : Int32) + nI i = nI (4 + i) := nI_add 4 i
    have em : α 4 (4 + nI i).toNatClampNeg = nI w.length := by rw [e4, nI_clamp (by omega)]; exact v1
    refine T_iload_n (pc := 4) d_Md_digest_4 rfl ?_
    refine T_aload_n (pc := 5) d_Md_digest_5 rfl ?_
    refine T_get (pc := 6) d_Md_digest_6 sF_Md_75_Md hM.1 rfl ?_
    refine T_icmp_ge (tgt := 84) (pc := 9) d_Md_digest_9 (by decide) (fun q9 => ?_) (fun q9 => ?_)
    · exact absurd q9 (by rw [hs.2.1]; exact nI_ge hi2 (by omega))
    · refine T_aload_n (pc := 12) d_Md_digest_12 rfl ?_
      refine T_get (pc := 13) d_Md_digest_13 sF_Md_16_Md hM.1 rfl ?_
      refine T_iload_n (pc := 16) d_Md_digest_16 rfl ?_
      refine T_zald (N := 4) (pc := 17) d_Md_digest_17 (hM.arr 3) (vp_in_nI (by omega) (by decide)) ?_
      refine T_if_eq (tgt := 37) (pc := 18) d_Md_digest_18 (by decide) (fun q18 => ?_) (fun q18 => ?_)
      · refine T_iload_n (pc := 37) d_Md_digest_37 rfl ?_
        refine T_istore_n (pc := 38) d_Md_digest_38 rfl (Nat.le_of_ble_eq_true rfl) rfl ?_
        refine T_iconst (v := 0) (pc := 39) d_Md_digest_39 rfl ?_
        refine T_istore_n (pc := 40) d_Md_digest_40 rfl (Nat.le_of_ble_eq_true rfl) rfl ?_
        first
          | rw [if_pos (bI_n (fun z => q18 (e3.trans z)))] at hQ
          | rw [if_neg (by rw [bI_z (e3.symm.trans q18)]; decide)] at hQ
        refine c_Md_digest_in hM (by omega) v1 v2 v4 w 0 _ List.drop_zero (Nat.zero_le _) ?_
        refine T_iinc (pc := 78) d_Md_digest_78 rfl (nI_1 i) (Nat.le_of_ble_eq_true rfl) rfl ?_
        refine T_goto (tgt := 4) (pc := 81) d_Md_digest_81 (by decide) ?_
        refine T_loc [0, 2, 3] rfl ?_
        exact ih _ (i + 1) _ hts2 rfl hi2 hQ
      · refine T_bipush (v := 31) (pc := 21) d_Md_digest_21 rfl ?_
        refine T_iload_n (pc := 23) d_Md_digest_23 rfl ?_
        refine T_imul (pc := 24) d_Md_digest_24 ?_
        refine T_aload_n (pc := 25) d_Md_digest_25 rfl ?_
        refine T_get (pc := 26) d_Md_digest_26 sF_Md_20_Md hM.1 rfl ?_
        refine T_iconst (v := 4) (pc := 29) d_Md_digest_29 rfl ?_
        refine T_iload_n (pc := 30) d_Md_digest_30 rfl ?_
        refine T_iadd (pc := 31) d_Md_digest_31 ?_
        refine T_iald (N := 8) (pc := 32) d_Md_digest_32 (hM.arr 4) (by rw [e4]; exact vp_in_nI (by omega) (by decide)) ?_
        refine T_top (em) ?_
        refine T_iadd (pc := 33) d_Md_digest_33 ?_
        refine T_goto (tgt := 38) (pc := 34) d_Md_digest_34 (by decide) ?_
        refine T_istore_n (pc := 38) d_Md_digest_38 rfl (Nat.le_of_ble_eq_true rfl) rfl ?_
        refine T_iconst (v := 0) (pc := 39) d_Md_digest_39 rfl ?_
        refine T_istore_n (pc := 40) d_Md_digest_40 rfl (Nat.le_of_ble_eq_true rfl) rfl ?_
        first
          | rw [if_pos (bI_n (fun z => q18 (e3.trans z)))] at hQ
          | rw [if_neg (by rw [bI_z (e3.symm.trans q18)]; decide)] at hQ
        refine c_Md_digest_in hM (by omega) v1 v2 v4 w 0 _ List.drop_zero (Nat.zero_le _) ?_
        refine T_iinc (pc := 78) d_Md_digest_78 rfl (nI_1 i) (Nat.le_of_ble_eq_true rfl) rfl ?_
        refine T_goto (tgt := 4) (pc := 81) d_Md_digest_81 (by decide) ?_
        refine T_loc [0, 2, 3] rfl ?_
        exact ih _ (i + 1) _ hts2 rfl hi2 hQ
set_option maxRecDepth 100000 in
set_option maxHeartbeats 4000000 in
theorem c_Md_digest {n m : Nat} {h : aH} {σ : Nat → Int32} {ν : Int64} {α : Nat → Nat → Int32} {ns : List Sf} {vs : List (List Int32)} (hM : Md h m σ ν α) (hs : mSc σ α ns) (hv : mVa α 4 ns vs) : Con M_Md_digest 0 0 0 n [.ref m] h (fun r h' => r = some (.int (dgF ns vs 0)) ∧ h' = h) := by
  refine Con.of rfl (Nat.le_of_ble_eq_true rfl) ?_
  refine T_iconst (v := 0) (pc := 0) d_Md_digest_0 rfl ?_
  refine T_istore_n (pc := 1) d_Md_digest_1 rfl (Nat.le_of_ble_eq_true rfl) rfl ?_
  refine T_iconst (v := 0) (pc := 2) d_Md_digest_2 rfl ?_
  refine T_istore_n (pc := 3) d_Md_digest_3 rfl (Nat.le_of_ble_eq_true rfl) rfl ?_
  exact c_Md_digest_out hM hs hv ns vs 0 0 List.drop_zero List.drop_zero (Nat.zero_le _) ⟨rfl, rfl⟩
