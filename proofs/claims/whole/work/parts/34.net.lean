/-! OnceWire$Network: the line of messages. -/
abbrev Mg : Type := List Int32 × Bool
def Nw (h : aH) (w : Nat) (ads : List Nat) (ms : List Mg) : Prop := (ads.length = 17 ∧ ads.Nodup ∧ (∀ q, q ∈ ads → w + 3 ≤ q ∧ q ≤ w + 35 ∧ (q - w) % 2 = 1) ∧ ms.length ≤ 16) ∧ (∃ g : Nat → Int32, h w = some (.inr (3, [.ref (w + 1), .ref (w + 2), .int (nI ms.length)])) ∧ h (w + 1) = some (.inl (a_tB, 17, .inr (fun i => ads[i]?))) ∧ h (w + 2) = some (.inl (.boolean, 16, .inl g)) ∧ ∀ (i : Nat) (m : Mg), ms[i]? = some m → g i = bI m.2) ∧ (∀ q, q ∈ ads → ∃ l, By h q 156 l) ∧ ∀ (i : Nat) (m : Mg) (q : Nat), ms[i]? = some m → ads[i]? = some q → By h q 156 m.1
theorem Nw.same {h h' : aH} {w : Nat} {ads : List Nat} {ms : List Mg} (hn : Nw h w ads ms) (o : ∀ q, w ≤ q → q ≤ w + 36 → h' q = h q) : Nw h' w ads ms := by
  obtain ⟨⟨a1, a2, a3, a4⟩, ⟨g, b1, b2, b3, b4⟩, c1, c2⟩ := hn
  refine ⟨⟨a1, a2, a3, a4⟩, ⟨g, (o w (by omega) (by omega)).trans b1, (o _ (by omega) (by omega)).trans b2, (o _ (by omega) (by omega)).trans b3, b4⟩, fun q hq => ?_, fun i m q hm hq => ?_⟩
  · obtain ⟨l, hl⟩ := c1 q hq
    have := a3 q hq
    exact ⟨l, hl.same (o q (by omega) (by omega)) (o _ (by omega) (by omega))⟩
  · have := a3 q (List.mem_of_getElem? hq)
    exact (c2 i m q hm hq).same (o q (by omega) (by omega)) (o _ (by omega) (by omega))
theorem Nw.le {h : aH} {w : Nat} {ads : List Nat} {ms : List Mg} (hn : Nw h w ads ms) : ms.length ≤ 16 := hn.1.2.2.2
theorem Nw.obj {h : aH} {w : Nat} {ads : List Nat} {ms : List Mg} (hn : Nw h w ads ms) : h w = some (.inr (3, [.ref (w + 1), .ref (w + 2), .int (nI ms.length)])) := by
  obtain ⟨_, ⟨_, q, _⟩, _⟩ := hn
  exact q
theorem nodup_ne {l : List Nat} (h : l.Nodup) {i j a b : Nat} (hi : l[i]? = some a) (hj : l[j]? = some b) (hne : i ≠ j) : a ≠ b := by
  intro e
  subst e
  obtain ⟨h1, e1⟩ := List.getElem?_eq_some_iff.mp hi
  obtain ⟨h2, e2⟩ := List.getElem?_eq_some_iff.mp hj
  rcases Nat.lt_or_gt_of_ne hne with h3 | h3
  · exact (List.pairwise_iff_getElem.mp h) i j h1 h2 h3 (e1.trans e2.symm)
  · exact (List.pairwise_iff_getElem.mp h) j i h2 h1 h3 (e2.trans e1.symm)
theorem nar_bI (b : Bool) : vp_nar .boolean (bI b) = bI b := by cases b <;> rfl
set_option maxRecDepth 100000 in
set_option maxHeartbeats 4000000 in
theorem c_Network_has {n w : Nat} {h : aH} {ads : List Nat} {ms : List Mg} (hn : Nw h w ads ms) {k : Int32} : Con M_Network_has 0 0 0 n [.ref w, .int k] h (fun r h' => r = some (.int (if 0 ≤ k ∧ k < nI ms.length then 1 else 0)) ∧ h' = h) := by
  refine Con.of rfl (Nat.le_of_ble_eq_true rfl) ?_
  refine T_iload_n (pc := 0) d_Network_has_0 rfl ?_
  refine T_if_lt (tgt := 16) (pc := 1) d_Network_has_1 (by decide) (fun q1 => ?_) (fun q1 => ?_)
  · refine T_iconst (v := 0) (pc := 16) d_Network_has_16 rfl ?_
    refine T_zret (pc := 17) d_Network_has_17 rfl (by decide) rfl (Nat.le_refl _) ?_
    refine ⟨?_, rfl⟩
    first
      | rw [if_neg (fun q => absurd q.1 (Int32.not_le.mpr q1))]
      | rw [if_neg (fun q => absurd q.2 (Int32.not_lt.mpr q9))]
      | rw [if_pos ⟨Int32.not_lt.mp q1, Int32.not_le.mp q9⟩]
  · refine T_iload_n (pc := 4) d_Network_has_4 rfl ?_
    refine T_aload_n (pc := 5) d_Network_has_5 rfl ?_
    refine T_get (pc := 6) d_Network_has_6 sF_Network_21_Network hn.obj rfl ?_
    refine T_icmp_ge (tgt := 16) (pc := 9) d_Network_has_9 (by decide) (fun q9 => ?_) (fun q9 => ?_)
    · refine T_iconst (v := 0) (pc := 16) d_Network_has_16 rfl ?_
      refine T_zret (pc := 17) d_Network_has_17 rfl (by decide) rfl (Nat.le_refl _) ?_
      refine ⟨?_, rfl⟩
      first
        | rw [if_neg (fun q => absurd q.1 (Int32.not_le.mpr q1))]
        | rw [if_neg (fun q => absurd q.2 (Int32.not_lt.mpr q9))]
        | rw [if_pos ⟨Int32.not_lt.mp q1, Int32.not_le.mp q9⟩]
    · refine T_iconst (v := 1) (pc := 12) d_Network_has_12 rfl ?_
      refine T_goto (tgt := 17) (pc := 13) d_Network_has_13 (by decide) ?_
      refine T_zret (pc := 17) d_Network_has_17 rfl (by decide) rfl (Nat.le_refl _) ?_
      refine ⟨?_, rfl⟩
      first
        | rw [if_neg (fun q => absurd q.1 (Int32.not_le.mpr q1))]
        | rw [if_neg (fun q => absurd q.2 (Int32.not_lt.mpr q9))]
        | rw [if_pos ⟨Int32.not_lt.mp q1, Int32.not_le.mp q9⟩]
set_option maxRecDepth 100000 in
set_option maxHeartbeats 4000000 in
theorem c_Network_isFull {n w : Nat} {h : aH} {ads : List Nat} {ms : List Mg} (hn : Nw h w ads ms) : Con M_Network_isFull 0 0 0 n [.ref w] h (fun r h' => r = some (.int (if ms.length < 16 then 0 else 1)) ∧ h' = h) := by
  have hle := hn.le
  refine Con.of rfl (Nat.le_of_ble_eq_true rfl) ?_
  refine T_aload_n (pc := 0) d_Network_isFull_0 rfl ?_
  refine T_get (pc := 1) d_Network_isFull_1 sF_Network_21_Network hn.obj rfl ?_
  refine T_bipush (v := 16) (pc := 4) d_Network_isFull_4 rfl ?_
  refine T_icmp_lt (tgt := 13) (pc := 6) d_Network_isFull_6 (by decide) (fun q6 => ?_) (fun q6 => ?_)
  · refine T_iconst (v := 0) (pc := 13) d_Network_isFull_13 rfl ?_
    refine T_zret (pc := 14) d_Network_isFull_14 rfl (by decide) rfl (Nat.le_refl _) ?_
    refine ⟨?_, rfl⟩
    first
      | rw [if_pos ((nI_ltI (b := 16) (by omega) (by decide)).mp q6)]
      | rw [if_neg (fun q => q6 (nI_lt (b := 16) q (by decide)))]
  · refine T_iconst (v := 1) (pc := 9) d_Network_isFull_9 rfl ?_
    refine T_goto (tgt := 14) (pc := 10) d_Network_isFull_10 (by decide) ?_
    refine T_zret (pc := 14) d_Network_isFull_14 rfl (by decide) rfl (Nat.le_refl _) ?_
    refine ⟨?_, rfl⟩
    first
      | rw [if_pos ((nI_ltI (b := 16) (by omega) (by decide)).mp q6)]
      | rw [if_neg (fun q => q6 (nI_lt (b := 16) q (by decide)))]
set_option maxRecDepth 100000 in
set_option maxHeartbeats 4000000 in
theorem c_Network_message {n w : Nat} {h : aH} {ads : List Nat} {ms : List Mg} (hn : Nw h w ads ms) {k : Nat} {m : Mg} (hm : ms[k]? = some m) {q0 : Nat} (hq : ads[k]? = some q0) : Con M_Network_message 1 0 0 n [.ref w, .int (nI k)] h (fun r h' => r = some (.ref q0) ∧ h' = h) := by
  have hle := hn.le
  have hk : k < ms.length := (List.getElem?_eq_some_iff.mp hm).1
  obtain ⟨⟨a1, a2, a3, a4⟩, ⟨g, b1, b2, b3, b4⟩, c1, c2⟩ := id hn
  refine Con.of rfl (Nat.le_of_ble_eq_true rfl) ?_
  refine T_aload_n (pc := 0) d_Network_message_0 rfl ?_
  refine T_get (pc := 1) d_Network_message_1 sF_Network_13_Network hn.obj rfl ?_
  refine T_aload_n (pc := 4) d_Network_message_4 rfl ?_
  refine T_iload_n (pc := 5) d_Network_message_5 rfl ?_
  refine T_ivV (pc := 6) d_Network_message_6 sI_Network_28 (c_Network_has hn) hn.obj rfl rfl ⟨(Nat.le_of_ble_eq_true rfl), (Nat.le_of_ble_eq_true rfl)⟩ ⟨(Nat.le_of_ble_eq_true rfl), (Nat.le_of_ble_eq_true rfl)⟩ (Nat.le_of_ble_eq_true rfl) (fun r1 h1 q1 => ?_)
  obtain ⟨rfl, e1⟩ := q1
  rw [e1, if_pos (in_has hk (by omega))]
  refine T_if_eq (tgt := 16) (pc := 9) d_Network_message_9 (by decide) (fun q9 => ?_) (fun q9 => ?_)
  · exact absurd q9 (by decide)
  · refine T_iload_n (pc := 12) d_Network_message_12 rfl ?_
    refine T_goto (tgt := 18) (pc := 13) d_Network_message_13 (by decide) ?_
    refine T_aald (pc := 18) d_Network_message_18 b2 (vp_in_nI (by omega) (by decide)) (by rw [nI_clamp (by omega)]; exact hq) ?_
    refine T_aret (pc := 19) d_Network_message_19 rfl rfl (Nat.le_refl _) ?_
    exact ⟨rfl, rfl⟩
set_option maxRecDepth 100000 in
set_option maxHeartbeats 4000000 in
theorem c_Network_isForServer {n w : Nat} {h : aH} {ads : List Nat} {ms : List Mg} (hn : Nw h w ads ms) {k : Nat} {m : Mg} (hm : ms[k]? = some m) : Con M_Network_isForServer 1 0 0 n [.ref w, .int (nI k)] h (fun r h' => r = some (.int (bI m.2)) ∧ h' = h) := by
  have hle := hn.le
  have hk : k < ms.length := (List.getElem?_eq_some_iff.mp hm).1
  obtain ⟨⟨a1, a2, a3, a4⟩, ⟨g, b1, b2, b3, b4⟩, c1, c2⟩ := id hn
  refine Con.of rfl (Nat.le_of_ble_eq_true rfl) ?_
  refine T_aload_n (pc := 0) d_Network_isForServer_0 rfl ?_
  refine T_iload_n (pc := 1) d_Network_isForServer_1 rfl ?_
  refine T_ivV (pc := 2) d_Network_isForServer_2 sI_Network_28 (c_Network_has hn) hn.obj rfl rfl ⟨(Nat.le_of_ble_eq_true rfl), (Nat.le_of_ble_eq_true rfl)⟩ ⟨(Nat.le_of_ble_eq_true rfl), (Nat.le_of_ble_eq_true rfl)⟩ (Nat.le_of_ble_eq_true rfl) (fun r1 h1 q1 => ?_)
  obtain ⟨rfl, e1⟩ := q1
  rw [e1, if_pos (in_has hk (by omega))]
  refine T_if_eq (tgt := 21) (pc := 5) d_Network_isForServer_5 (by decide) (fun q5 => ?_) (fun q5 => ?_)
  · refine T_iconst (v := 0) (pc := 21) d_Network_isForServer_21 rfl ?_
    refine T_zret (pc := 22) d_Network_isForServer_22 rfl (by decide) rfl (Nat.le_refl _) ?_
    first
      | exact absurd q5 (by decide)
      | (rw [nI_clamp (by omega), b4 k m hm] at q14
         rcases bI_01 m.2 with e | e
         · first | exact absurd e q14 | (refine ⟨?_, rfl⟩; rw [e]; done)
         · first | exact absurd (e.symm.trans q14) (by decide) | (refine ⟨?_, rfl⟩; rw [e]; done))
  · refine T_aload_n (pc := 8) d_Network_isForServer_8 rfl ?_
    refine T_get (pc := 9) d_Network_isForServer_9 sF_Network_17_Network hn.obj rfl ?_
    refine T_iload_n (pc := 12) d_Network_isForServer_12 rfl ?_
    refine T_zald (pc := 13) d_Network_isForServer_13 b3 (vp_in_nI (by omega) (by decide)) ?_
    refine T_if_eq (tgt := 21) (pc := 14) d_Network_isForServer_14 (by decide) (fun q14 => ?_) (fun q14 => ?_)
    · refine T_iconst (v := 0) (pc := 21) d_Network_isForServer_21 rfl ?_
      refine T_zret (pc := 22) d_Network_isForServer_22 rfl (by decide) rfl (Nat.le_refl _) ?_
      first
        | exact absurd q5 (by decide)
        | (rw [nI_clamp (by omega), b4 k m hm] at q14
           rcases bI_01 m.2 with e | e
           · first | exact absurd e q14 | (refine ⟨?_, rfl⟩; rw [e]; done)
           · first | exact absurd (e.symm.trans q14) (by decide) | (refine ⟨?_, rfl⟩; rw [e]; done))
    · refine T_iconst (v := 1) (pc := 17) d_Network_isForServer_17 rfl ?_
      refine T_goto (tgt := 22) (pc := 18) d_Network_isForServer_18 (by decide) ?_
      refine T_zret (pc := 22) d_Network_isForServer_22 rfl (by decide) rfl (Nat.le_refl _) ?_
      first
        | exact absurd q5 (by decide)
        | (rw [nI_clamp (by omega), b4 k m hm] at q14
           rcases bI_01 m.2 with e | e
           · first | exact absurd e q14 | (refine ⟨?_, rfl⟩; rw [e]; done)
           · first | exact absurd (e.symm.trans q14) (by decide) | (refine ⟨?_, rfl⟩; rw [e]; done))
set_option maxRecDepth 100000 in
set_option maxHeartbeats 4000000 in
theorem c_Network_send {n w : Nat} {h : aH} {ads : List Nat} {ms : List Mg} (hn : Nw h w ads ms) {a2 cap2 : Nat} {b : Bool} {l2 : List Int32} (hb2 : By h a2 cap2 l2) (hc2 : cap2 < 2 ^ 31) (hr : l2.length ≤ 156) (hne : ms.length < 16 → ∀ q0, ads[ms.length]? = some q0 → a2 ≠ q0) : Con M_Network_send 2 0 0 n [.ref w, .ref a2, .int (bI b)] h (fun r h' => if ms.length < 16 then r = none ∧ Nw h' w ads (ms ++ [(l2, b)]) ∧ (∀ q, q < w ∨ w + 36 < q → h' q = h q) else r = none ∧ h' = h) := by
  have hle := hn.le
  obtain ⟨⟨a1, a2n, a3, a4⟩, ⟨g, b1, b2, b3, b4⟩, c1, c2⟩ := id hn
  refine Con.of rfl (Nat.le_of_ble_eq_true rfl) ?_
  refine T_aload_n (pc := 0) d_Network_send_0 rfl ?_
  refine T_ivV (pc := 1) d_Network_send_1 sI_Network_32 (c_Network_isFull hn) hn.obj rfl rfl ⟨(Nat.le_of_ble_eq_true rfl), (Nat.le_of_ble_eq_true rfl)⟩ ⟨(Nat.le_of_ble_eq_true rfl), (Nat.le_of_ble_eq_true rfl)⟩ (Nat.le_of_ble_eq_true rfl) (fun r1 h1 q1 => ?_)
  obtain ⟨rfl, e1⟩ := q1
  rw [e1]
  refine T_if_eq (tgt := 8) (pc := 4) d_Network_send_4 (by decide) (fun q4 => ?_) (fun q4 => ?_)
  · have hf : ms.length < 16 := Classical.byContradiction (fun q => by
      rw [if_neg q] at q4
      exact absurd q4 (by decide))
    obtain ⟨q0, hq0⟩ : ∃ q0, ads[ms.length]? = some q0 := ⟨_, List.getElem?_eq_getElem (by omega)⟩
    obtain ⟨l0, hb0⟩ := c1 q0 (List.mem_of_getElem? hq0)
    have hqr := a3 q0 (List.mem_of_getElem? hq0)
    have hne2 := hne hf q0 hq0
    refine T_aload_n (pc := 8) d_Network_send_8 rfl ?_
    refine T_get (pc := 9) d_Network_send_9 sF_Network_13_Network b1 rfl ?_
    refine T_aload_n (pc := 12) d_Network_send_12 rfl ?_
    refine T_get (pc := 13) d_Network_send_13 sF_Network_21_Network b1 rfl ?_
    refine T_aald (pc := 16) d_Network_send_16 b2 (vp_in_nI (by omega) (by decide)) (by rw [nI_clamp (by omega)]; exact hq0) ?_
    refine T_aload_n (pc := 17) d_Network_send_17 rfl ?_
    refine T_ivV (pc := 18) d_Network_send_18 sI_Network_36 (c_Bytes_become hb0 hb2 (by decide) hc2 hne2 hr) hb0.obj rfl rfl ⟨(Nat.le_of_ble_eq_true rfl), (Nat.le_of_ble_eq_true rfl)⟩ ⟨(Nat.le_of_ble_eq_true rfl), (Nat.le_of_ble_eq_true rfl)⟩ (Nat.le_of_ble_eq_true rfl) (fun r2 h2 q2 => ?_)
    obtain ⟨rfl, hb3, o2⟩ := q2
    have b12 := (o2 w (by omega) (by omega)).trans b1
    have b22 := (o2 (w + 1) (by omega) (by omega)).trans b2
    have b32 := (o2 (w + 2) (by omega) (by omega)).trans b3
    refine T_aload_n (pc := 21) d_Network_send_21 rfl ?_
    refine T_get (pc := 22) d_Network_send_22 sF_Network_17_Network b12 rfl ?_
    refine T_aload_n (pc := 25) d_Network_send_25 rfl ?_
    refine T_get (pc := 26) d_Network_send_26 sF_Network_21_Network b12 rfl ?_
    refine T_iload_n (pc := 29) d_Network_send_29 rfl ?_
    refine T_zast (pc := 30) d_Network_send_30 b32 (vp_in_nI hf (by decide)) (T_up (fun h30x1 g30x1 o30x1 => ?_))
    have b12_30x1 := (o30x1 w (by omega)).trans b12
    have b22_30x1 := (o30x1 (w + 1) (by omega)).trans b22
    refine T_aload_n (pc := 31) d_Network_send_31 rfl ?_
    refine T_dup (pc := 32) d_Network_send_32 rfl ?_
    refine T_get (pc := 33) d_Network_send_33 sF_Network_21_Network b12_30x1 rfl ?_
    refine T_iconst (v := 1) (pc := 36) d_Network_send_36 rfl ?_
    refine T_iadd (pc := 37) d_Network_send_37 ?_
    refine T_put (pc := 38) d_Network_send_38 sF_Network_21_Network b12_30x1 (Nat.le_of_ble_eq_true rfl) (a_fit_i _) (T_up (fun h38x2 g38x2 o38x2 => ?_))
    have b22_38x2 := (o38x2 (w + 1) (by omega)).trans b22_30x1
    have g30x1_38x2 := (o38x2 (w + 2) (by omega)).trans g30x1
    refine T_vret (pc := 41) d_Network_send_41 rfl rfl (Nat.le_refl _) ?_
    rw [if_pos hf]
    have o9 : ∀ q, q ≠ q0 → q ≠ q0 + 1 → q ≠ w → q ≠ w + 2 → h38x2 q = h q := fun q z1 z2 z3 z4 => (o38x2 q z3).trans ((o30x1 q z4).trans (o2 q z1 z2))
    have hrow : By h38x2 q0 156 l2 := hb3.same ((o38x2 q0 (by omega)).trans (o30x1 q0 (by omega))) ((o38x2 (q0 + 1) (by omega)).trans (o30x1 (q0 + 1) (by omega)))
    have hoth : ∀ q l, q ∈ ads → q ≠ q0 → By h q 156 l → By h38x2 q 156 l := fun q l hq hn0 hbq => by
      have := a3 q hq
      exact hbq.same (o9 q hn0 (by omega) (by omega) (by omega)) (o9 (q + 1) (by omega) (by omega) (by omega) (by omega))
    refine ⟨rfl, ⟨⟨a1, a2n, a3, by simp; omega⟩, ⟨_, ?_, b22_38x2, g30x1_38x2, fun i m hm => ?_⟩, fun q hq => ?_, fun i m q hm hq => ?_⟩, fun q hq => o9 q (by omega) (by omega) (by omega) (by omega)⟩
    · rw [g38x2, nI_1, List.length_append]
      rfl
    · rw [nI_clamp (by omega)]
      by_cases hi : i = ms.length
      · subst hi
        rw [pk_us, List.getElem?_append_right (Nat.le_refl _), Nat.sub_self] at *
        cases hm
        exact nar_bI b
      · have hi2 : i < ms.length := by
          have := (List.getElem?_eq_some_iff.mp hm).1
          simp at this
          omega
        rw [List.getElem?_append_left hi2] at hm
        rw [pk_un hi]
        exact b4 i m hm
    · by_cases hqq : q = q0
      · subst hqq
        exact ⟨l2, hrow⟩
      · obtain ⟨l, hl⟩ := c1 q hq
        exact ⟨l, hoth q l hq hqq hl⟩
    · by_cases hi : i = ms.length
      · subst hi
        rw [List.getElem?_append_right (Nat.le_refl _), Nat.sub_self] at hm
        cases hm
        cases hq0.symm.trans hq
        exact hrow
      · have hi2 : i < ms.length := by
          have := (List.getElem?_eq_some_iff.mp hm).1
          simp at this
          omega
        rw [List.getElem?_append_left hi2] at hm
        exact hoth q _ (List.mem_of_getElem? hq) (nodup_ne a2n hq hq0 hi) (c2 i m q hm hq)
  · refine T_vret (pc := 7) d_Network_send_7 rfl rfl (Nat.le_refl _) ?_
    rw [if_neg (fun q => q4 (by rw [if_pos q]))]
    exact ⟨rfl, rfl⟩
