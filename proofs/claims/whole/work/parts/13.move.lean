/-! OnceWire$Bytes.moveToEnd: a row of rows. -/
def mvG (g : Nat → Option Nat) (k i : Nat) : Nat → Option Nat := fun j => if k ≤ j ∧ j < i then g (j + 1) else g j
theorem mvG_0 (g : Nat → Option Nat) (k : Nat) : mvG g k k = g := by
  funext j
  unfold mvG
  rw [if_neg (by omega)]
theorem mvG_s (g : Nat → Option Nat) {k i : Nat} (h : k ≤ i) : va_up (mvG g k i) i (g (i + 1)) = mvG g k (i + 1) := by
  funext j
  by_cases hj : j = i
  · subst hj
    rw [va_up_self]
    unfold mvG
    rw [if_pos (by omega)]
  · rw [va_up_ne _ _ hj]
    unfold mvG
    by_cases h2 : k ≤ j ∧ j < i
    · rw [if_pos h2, if_pos (by omega)]
    · rw [if_neg h2, if_neg (by omega)]
theorem mvG_e {ads : List Nat} {k q0 : Nat} (hk : ads[k]? = some q0) : va_up (mvG (fun i => ads[i]?) k (ads.length - 1)) (ads.length - 1) (some q0) = fun i => (ads.eraseIdx k ++ [q0])[i]? := by
  have hkl : k < ads.length := (List.getElem?_eq_some_iff.mp hk).1
  have hel : (ads.eraseIdx k).length = ads.length - 1 := List.length_eraseIdx_of_lt hkl
  funext j
  by_cases hj : j = ads.length - 1
  · subst hj
    rw [va_up_self, List.getElem?_append_right (by omega), hel, Nat.sub_self]
    rfl
  · rw [va_up_ne _ _ hj]
    unfold mvG
    by_cases h1 : j < ads.length - 1
    · rw [List.getElem?_append_left (by omega), List.getElem?_eraseIdx]
      by_cases h2 : k ≤ j
      · rw [if_pos ⟨h2, h1⟩, if_neg (by omega)]
      · rw [if_neg (by omega), if_pos (by omega)]
    · rw [if_neg (by omega), List.getElem?_eq_none (l := ads.eraseIdx k ++ [q0]) (by rw [List.length_append, hel]; simp; omega)]
      exact List.getElem?_eq_none (by omega)
set_option maxRecDepth 100000 in
set_option maxHeartbeats 4000000 in
theorem c_Bytes_moveToEnd_loop {n r N k q0 : Nat} {fs0 : List Value} {h0 : aH} {g : Nat → Option Nat} {Q : aQ} (hN : N < 2 ^ 31) (hq0r : q0 ≠ r) (hq0h : h0 q0 = some (.inr (1, fs0))) (hg : ∀ i, i < N → ∃ q fs, g i = some q ∧ h0 q = some (.inr (1, fs))) (hR0 : h0 r = some (.inl (a_tB, N, .inr g))) (hQ : ∀ h', h' r = some (.inl (a_tB, N, .inr (va_up (mvG g k (N - 1)) (N - 1) (some q0)))) → (∀ q, q ≠ r → h' q = h0 q) → Q none h') : ∀ (t i : Nat) (h : aH), i + t + 1 = N → k ≤ i → h r = some (.inl (a_tB, N, .inr (mvG g k i))) → (∀ q, q ≠ r → h q = h0 q) → Tri M_Bytes_moveToEnd (a_rm 0 0 0) (a_Z 0 0 Q) 17 [(3, .int (nI i)), (2, .ref q0), (0, .ref r), (1, .int (nI k))] [] n h 0 0 := by
  intro t
  induction t with
  | zero =>
    intro i h hiN hki hR hO
    have e1 : nI N - 1 = nI (N - 1) := pk_sub (b := 1) (by omega)
    refine T_iload_n (pc := 17) d_Bytes_moveToEnd_17 rfl ?_
    refine T_aload_n (pc := 18) d_Bytes_moveToEnd_18 rfl ?_
    refine T_alen (pc := 19) d_Bytes_moveToEnd_19 hR (Or.inr (Or.inr rfl)) ?_
    refine T_iconst (v := 1) (pc := 20) d_Bytes_moveToEnd_20 rfl ?_
    refine T_isub (pc := 21) d_Bytes_moveToEnd_21 ?_
    refine T_icmp_ge (tgt := 39) (pc := 22) d_Bytes_moveToEnd_22 (by decide) (fun q22 => ?_) (fun q22 => ?_)
    · have hq9 : h q0 = some (.inr (1, fs0)) := (hO q0 hq0r).trans hq0h
      refine T_aload_n (pc := 39) d_Bytes_moveToEnd_39 rfl ?_
      refine T_aload_n (pc := 40) d_Bytes_moveToEnd_40 rfl ?_
      refine T_alen (pc := 41) d_Bytes_moveToEnd_41 hR (Or.inr (Or.inr rfl)) ?_
      refine T_iconst (v := 1) (pc := 42) d_Bytes_moveToEnd_42 rfl ?_
      refine T_isub (pc := 43) d_Bytes_moveToEnd_43 ?_
      refine T_aload_n (pc := 44) d_Bytes_moveToEnd_44 rfl ?_
      refine T_aast (pc := 45) d_Bytes_moveToEnd_45 hR hq9 rfl rfl (by rw [e1]; exact vp_in_nI (by omega) hN) (T_up (fun h45x1 g45x1 o45x1 => ?_))
      have hq9_45x1 := (o45x1 q0 hq0r).trans hq9
      refine T_vret (pc := 46) d_Bytes_moveToEnd_46 rfl rfl (Nat.le_refl _) ?_
      rw [show nI N - 1 = nI (N - 1) from pk_sub (b := 1) (by omega), nI_clamp (by omega)] at g45x1
      rw [show i = N - 1 from by omega] at g45x1
      exact hQ _ g45x1 (fun q hq => (o45x1 q hq).trans (hO q hq))
    · exact absurd (by rw [e1]; exact nI_le (by omega) (by omega)) q22
  | succ t ih =>
    intro i h hiN hki hR hO
    have e1 : nI N - 1 = nI (N - 1) := pk_sub (b := 1) (by omega)
    refine T_iload_n (pc := 17) d_Bytes_moveToEnd_17 rfl ?_
    refine T_aload_n (pc := 18) d_Bytes_moveToEnd_18 rfl ?_
    refine T_alen (pc := 19) d_Bytes_moveToEnd_19 hR (Or.inr (Or.inr rfl)) ?_
    refine T_iconst (v := 1) (pc := 20) d_Bytes_moveToEnd_20 rfl ?_
    refine T_isub (pc := 21) d_Bytes_moveToEnd_21 ?_
    refine T_icmp_ge (tgt := 39) (pc := 22) d_Bytes_moveToEnd_22 (by decide) (fun q22 => ?_) (fun q22 => ?_)
    · exact absurd q22 (by rw [e1]; exact nI_ge (by omega) (by omega))
    · obtain ⟨q1, fs1, hq1, hq1h⟩ := hg (i + 1) (by omega)
      have hq1r : q1 ≠ r := fun e => by
        rw [e, hR0] at hq1h
        cases hq1h
      have hq2 : h q1 = some (.inr (1, fs1)) := (hO q1 hq1r).trans hq1h
      refine T_aload_n (pc := 25) d_Bytes_moveToEnd_25 rfl ?_
      refine T_iload_n (pc := 26) d_Bytes_moveToEnd_26 rfl ?_
      refine T_aload_n (pc := 27) d_Bytes_moveToEnd_27 rfl ?_
      refine T_iload_n (pc := 28) d_Bytes_moveToEnd_28 rfl ?_
      refine T_iconst (v := 1) (pc := 29) d_Bytes_moveToEnd_29 rfl ?_
      refine T_iadd (pc := 30) d_Bytes_moveToEnd_30 ?_
      refine T_aald (pc := 31) d_Bytes_moveToEnd_31 hR (by rw [nI_1]; exact vp_in_nI (by omega) hN) (by rw [nI_1, nI_clamp (by omega)]; unfold mvG; rw [if_neg (by omega)]; exact hq1) ?_
      refine T_aast (pc := 32) d_Bytes_moveToEnd_32 hR hq2 rfl rfl (vp_in_nI (by omega) hN) (T_up (fun h32x1 g32x1 o32x1 => ?_))
      have hq2_32x1 := (o32x1 q1 hq1r).trans hq2
      refine T_iinc (pc := 33) d_Bytes_moveToEnd_33 rfl (nI_1 i) (Nat.le_of_ble_eq_true rfl) rfl ?_
      refine T_goto (tgt := 17) (pc := 36) d_Bytes_moveToEnd_36 (by decide) ?_
      rw [nI_clamp (by omega)] at g32x1
      rw [← hq1, mvG_s g hki] at g32x1
      exact ih (i + 1) _ (by omega) (by omega) g32x1 (fun q hq => (o32x1 q hq).trans (hO q hq))
set_option maxRecDepth 100000 in
set_option maxHeartbeats 4000000 in
theorem c_Bytes_moveToEnd {n r k q0 : Nat} {h : aH} {ads : List Nat} (hN : ads.length < 2 ^ 31) (hk : ads[k]? = some q0) (hR : h r = some (.inl (a_tB, ads.length, .inr (fun i => ads[i]?)))) (hads : ∀ q, q ∈ ads → ∃ fs, h q = some (.inr (1, fs))) : Con M_Bytes_moveToEnd 0 0 0 n [.ref r, .int (nI k)] h (fun r' h' => r' = none ∧ h' r = some (.inl (a_tB, ads.length, .inr (fun i => (ads.eraseIdx k ++ [q0])[i]?))) ∧ ∀ q, q ≠ r → h' q = h q) := by
  have hkl : k < ads.length := (List.getElem?_eq_some_iff.mp hk).1
  obtain ⟨fs0, hq0h⟩ := hads q0 (List.mem_of_getElem? hk)
  have hq0r : q0 ≠ r := fun e => by
    rw [e, hR] at hq0h
    cases hq0h
  have hg : ∀ i, i < ads.length → ∃ q fs, (fun i => ads[i]?) i = some q ∧ h q = some (.inr (1, fs)) := fun i hi => by
    obtain ⟨fs, hfs⟩ := hads ads[i] (List.getElem_mem hi)
    exact ⟨ads[i], fs, List.getElem?_eq_getElem hi, hfs⟩
  refine Con.of rfl (Nat.le_of_ble_eq_true rfl) ?_
  refine T_iload_n (pc := 0) d_Bytes_moveToEnd_0 rfl ?_
  refine T_if_lt (tgt := 10) (pc := 1) d_Bytes_moveToEnd_1 (by decide) (fun q1 => ?_) (fun q1 => ?_)
  · first | exact absurd q1 (nI_pos (by omega)) | exact absurd (nI_lt hkl hN) q7
  · refine T_iload_n (pc := 4) d_Bytes_moveToEnd_4 rfl ?_
    refine T_aload_n (pc := 5) d_Bytes_moveToEnd_5 rfl ?_
    refine T_alen (pc := 6) d_Bytes_moveToEnd_6 hR (Or.inr (Or.inr rfl)) ?_
    refine T_icmp_lt (tgt := 11) (pc := 7) d_Bytes_moveToEnd_7 (by decide) (fun q7 => ?_) (fun q7 => ?_)
    · refine T_aload_n (pc := 11) d_Bytes_moveToEnd_11 rfl ?_
      refine T_iload_n (pc := 12) d_Bytes_moveToEnd_12 rfl ?_
      refine T_aald (pc := 13) d_Bytes_moveToEnd_13 hR (vp_in_nI hkl hN) (by rw [nI_clamp (by omega)]; exact hk) ?_
      refine T_astore_n (pc := 14) d_Bytes_moveToEnd_14 rfl (Nat.le_of_ble_eq_true rfl) rfl ?_
      refine T_iload_n (pc := 15) d_Bytes_moveToEnd_15 rfl ?_
      refine T_istore_n (pc := 16) d_Bytes_moveToEnd_16 rfl (Nat.le_of_ble_eq_true rfl) rfl ?_
      refine c_Bytes_moveToEnd_loop (N := ads.length) (k := k) (g := fun i => ads[i]?) hN hq0r hq0h hg hR (fun h' g' o' => ⟨rfl, by rw [g', mvG_e hk], o'⟩) (ads.length - 1 - k) k h (by omega) (Nat.le_refl _) ?_ (fun _ _ => rfl)
      rw [mvG_0]
      exact hR
    · first | exact absurd q1 (nI_pos (by omega)) | exact absurd (nI_lt hkl hN) q7
