/-! OnceWire$Network.take, and its making. -/
theorem T_num {μ : aM} {R : Room} {Z : aZ} {pc : Nat} {L : List (Nat × Value)} {S : List Value} {n n' : Nat} {h : aH} {cells cells' slots slots' : Nat} (hn : n = n') (hc : cells = cells') (hs : slots = slots') (k : Tri μ R Z pc L S n' h cells' slots') : Tri μ R Z pc L S n h cells slots := by
  subst hn; subst hc; subst hs
  exact k
def shI (g : Nat → Int32) (k i : Nat) : Nat → Int32 := fun j => if k ≤ j ∧ j < i then g (j + 1) else g j
theorem shI_0 (g : Nat → Int32) (k : Nat) : shI g k k = g := by
  funext j
  unfold shI
  rw [if_neg (by omega)]
theorem shI_s (g : Nat → Int32) {k i : Nat} (h : k ≤ i) : upd (shI g k i) i (g (i + 1)) = shI g k (i + 1) := by
  funext j
  by_cases hj : j = i
  · subst hj
    rw [pk_us]
    unfold shI
    rw [if_pos (by omega)]
  · rw [pk_un hj]
    unfold shI
    by_cases h2 : k ≤ j ∧ j < i
    · rw [if_pos h2, if_pos (by omega)]
    · rw [if_neg h2, if_neg (by omega)]
theorem shI_at (g : Nat → Int32) {k i : Nat} : shI g k i (i + 1) = g (i + 1) := by
  unfold shI
  rw [if_neg (by omega)]
set_option maxRecDepth 100000 in
set_option maxHeartbeats 4000000 in
theorem c_Network_take_loop {n w k c : Nat} {g : Nat → Int32} {Z : aZ} (hc : c ≤ 15) (hg : ∀ j, j ≤ c → g j = 0 ∨ g j = 1) : ∀ (t i : Nat) (h : aH), i + t = c → k ≤ i → h w = some (.inr (3, [.ref (w + 1), .ref (w + 2), .int (nI c)])) → h (w + 2) = some (.inl (.boolean, 16, .inl (shI g k i))) → (∀ h', h' (w + 2) = some (.inl (.boolean, 16, .inl (shI g k c))) → (∀ q, q ≠ w + 2 → h' q = h q) → Tri M_Network_take (a_rm 1 0 0) Z 56 [(2, .int (nI c)), (0, .ref w), (1, .int (nI k))] [] n h' 0 0) → Tri M_Network_take (a_rm 1 0 0) Z 28 [(2, .int (nI i)), (0, .ref w), (1, .int (nI k))] [] n h 0 0 := by
  intro t
  induction t with
  | zero =>
    intro i h hit hki hW hX hK
    have hi : i = c := by omega
    subst hi
    refine T_iload_n (pc := 28) d_Network_take_28 rfl ?_
    refine T_aload_n (pc := 29) d_Network_take_29 rfl ?_
    refine T_get (pc := 30) d_Network_take_30 sF_Network_21_Network hW rfl ?_
    refine T_icmp_ge (tgt := 56) (pc := 33) d_Network_take_33 (by decide) (fun q33 => ?_) (fun q33 => ?_)
    · exact hK h hX (fun _ _ => rfl)
    · exact absurd (nI_le (Nat.le_refl _) (by omega)) q33
  | succ t ih =>
    intro i h hit hki hW hX hK
    refine T_iload_n (pc := 28) d_Network_take_28 rfl ?_
    refine T_aload_n (pc := 29) d_Network_take_29 rfl ?_
    refine T_get (pc := 30) d_Network_take_30 sF_Network_21_Network hW rfl ?_
    refine T_icmp_ge (tgt := 56) (pc := 33) d_Network_take_33 (by decide) (fun q33 => ?_) (fun q33 => ?_)
    · exact absurd q33 (nI_ge (by omega) (by omega))
    · refine T_aload_n (pc := 36) d_Network_take_36 rfl ?_
      refine T_get (pc := 37) d_Network_take_37 sF_Network_17_Network hW rfl ?_
      refine T_iload_n (pc := 40) d_Network_take_40 rfl ?_
      refine T_aload_n (pc := 41) d_Network_take_41 rfl ?_
      refine T_get (pc := 42) d_Network_take_42 sF_Network_17_Network hW rfl ?_
      refine T_iload_n (pc := 45) d_Network_take_45 rfl ?_
      refine T_iconst (v := 1) (pc := 46) d_Network_take_46 rfl ?_
      refine T_iadd (pc := 47) d_Network_take_47 ?_
      refine T_zald (pc := 48) d_Network_take_48 hX (by rw [nI_1]; exact vp_in_nI (by omega) (by decide)) ?_
      refine T_zast (pc := 49) d_Network_take_49 hX (vp_in_nI (by omega) (by decide)) (T_up (fun h49x1 g49x1 o49x1 => ?_))
      have hW_49x1 := (o49x1 w (by omega)).trans hW
      refine T_iinc (pc := 50) d_Network_take_50 rfl (nI_1 i) (Nat.le_of_ble_eq_true rfl) rfl ?_
      refine T_goto (tgt := 28) (pc := 53) d_Network_take_53 (by decide) ?_
      have g2 : h49x1 (w + 2) = some (.inl (.boolean, 16, .inl (shI g k (i + 1)))) := by
        rw [g49x1, nI_1, nI_clamp (by omega), nI_clamp (by omega), shI_at]
        have e9 : vp_nar .boolean (g (i + 1)) = g (i + 1) := by
          rcases hg (i + 1) (by omega) with e | e <;> rw [e] <;> rfl
        rw [e9, shI_s g hki]
      exact ih (i + 1) _ (by omega) (by omega) hW_49x1 g2 (fun h' g' o' => hK h' g' (fun q hq => (o' q hq).trans (o49x1 q hq)))
set_option maxRecDepth 100000 in
set_option maxHeartbeats 4000000 in
theorem c_Network_take {n w : Nat} {h : aH} {ads : List Nat} {ms : List Mg} (hn : Nw h w ads ms) {k : Nat} {m : Mg} (hm : ms[k]? = some m) {q0 : Nat} (hq : ads[k]? = some q0) : Con M_Network_take 1 0 0 n [.ref w, .int (nI k)] h (fun r h' => r = some (.ref q0) ∧ Nw h' w (ads.eraseIdx k ++ [q0]) (ms.eraseIdx k) ∧ By h' q0 156 m.1 ∧ ∀ q, q < w ∨ w + 36 < q → h' q = h q) := by
  have hle := hn.le
  have hk : k < ms.length := (List.getElem?_eq_some_iff.mp hm).1
  obtain ⟨⟨a1, a2n, a3, a4⟩, ⟨g, b1, b2, b3, b4⟩, c1, c2⟩ := id hn
  refine Con.of rfl (Nat.le_of_ble_eq_true rfl) ?_
  refine T_aload_n (pc := 0) d_Network_take_0 rfl ?_
  refine T_iload_n (pc := 1) d_Network_take_1 rfl ?_
  refine T_ivV (pc := 2) d_Network_take_2 sI_Network_28 (c_Network_has hn) hn.obj rfl rfl ⟨(Nat.le_of_ble_eq_true rfl), (Nat.le_of_ble_eq_true rfl)⟩ ⟨(Nat.le_of_ble_eq_true rfl), (Nat.le_of_ble_eq_true rfl)⟩ (Nat.le_of_ble_eq_true rfl) (fun r1 h1 q1 => ?_)
  obtain ⟨rfl, e1⟩ := q1
  rw [e1, if_pos (in_has hk (by omega))]
  refine T_if_eq (tgt := 56) (pc := 5) d_Network_take_5 (by decide) (fun q5 => ?_) (fun q5 => ?_)
  · exact absurd q5 (by decide)
  · refine T_aload_n (pc := 8) d_Network_take_8 rfl ?_
    refine T_get (pc := 9) d_Network_take_9 sF_Network_13_Network b1 rfl ?_
    refine T_iload_n (pc := 12) d_Network_take_12 rfl ?_
    refine T_ivS (pc := 13) d_Network_take_13 sI_Network_40 (c_Bytes_moveToEnd (k := k) (ads := ads) (by omega) hq (by rw [a1]; exact b2) (fun q hq => by obtain ⟨l, hl⟩ := c1 q hq; exact ⟨_, hl.obj⟩)) rfl rfl ⟨(Nat.le_of_ble_eq_true rfl), (Nat.le_of_ble_eq_true rfl)⟩ ⟨(Nat.le_of_ble_eq_true rfl), (Nat.le_of_ble_eq_true rfl)⟩ (Nat.le_of_ble_eq_true rfl) (fun r2 h2 q2 => ?_)
    obtain ⟨rfl, b22, o2⟩ := q2
    rw [a1] at b22
    have b12 := (o2 w (by omega)).trans b1
    have b32 := (o2 (w + 2) (by omega)).trans b3
    refine T_aload_n (pc := 16) d_Network_take_16 rfl ?_
    refine T_dup (pc := 17) d_Network_take_17 rfl ?_
    refine T_get (pc := 18) d_Network_take_18 sF_Network_21_Network b12 rfl ?_
    refine T_iconst (v := 1) (pc := 21) d_Network_take_21 rfl ?_
    refine T_isub (pc := 22) d_Network_take_22 ?_
    refine T_put (pc := 23) d_Network_take_23 sF_Network_21_Network b12 (Nat.le_of_ble_eq_true rfl) (a_fit_i _) (T_up (fun h23x1 g23x1 o23x1 => ?_))
    have b22_23x1 := (o23x1 (w + 1) (by omega)).trans b22
    have b32_23x1 := (o23x1 (w + 2) (by omega)).trans b32
    refine T_iload_n (pc := 26) d_Network_take_26 rfl ?_
    refine T_istore_n (pc := 27) d_Network_take_27 rfl (Nat.le_of_ble_eq_true rfl) rfl ?_
    have ec : nI ms.length - 1 = nI (ms.length - 1) := pk_sub (b := 1) (by omega)
    have hW : h23x1 w = some (.inr (3, [.ref (w + 1), .ref (w + 2), .int (nI (ms.length - 1))])) := by
      rw [g23x1, ec]
      rfl
    refine c_Network_take_loop (c := ms.length - 1) (g := g) (by omega) (fun j hj => ?_) (ms.length - 1 - k) k h23x1 (by omega) (Nat.le_refl _) hW (by rw [shI_0]; exact b32_23x1) (fun h5 g5 o5 => ?_)
    · obtain ⟨m', hm'⟩ : ∃ m', ms[j]? = some m' := ⟨_, List.getElem?_eq_getElem (by omega)⟩
      rw [b4 j m' hm']
      exact bI_01 _
    have b15 := (o5 w (by omega)).trans hW
    have b25 := (o5 (w + 1) (by omega)).trans b22_23x1
    have o9 : ∀ q, q ≠ w → q ≠ w + 1 → q ≠ w + 2 → h5 q = h q := fun q z1 z2 z3 => (o5 q z3).trans ((o23x1 q z1).trans (o2 q z2))
    have hel : (ads.eraseIdx k).length = 16 := by
      rw [List.length_eraseIdx_of_lt (by omega), a1]
    have hlast : (ads.eraseIdx k ++ [q0])[16]? = some q0 := by
      rw [List.getElem?_append_right (by omega), hel]
      rfl
    have hin : ∀ q, q ∈ ads.eraseIdx k ++ [q0] → q ∈ ads := fun q hq' => by
      rcases List.mem_append.mp hq' with z | z
      · exact List.mem_of_mem_eraseIdx z
      · rw [List.mem_singleton.mp z]
        exact List.mem_of_getElem? hq
    have hby : ∀ q l, q ∈ ads → By h q 156 l → By h5 q 156 l := fun q l hq' hbq => by
      have := a3 q hq'
      exact hbq.same (o9 q (by omega) (by omega) (by omega)) (o9 (q + 1) (by omega) (by omega) (by omega))
    refine T_aload_n (pc := 56) d_Network_take_56 rfl ?_
    refine T_get (pc := 57) d_Network_take_57 sF_Network_13_Network b15 rfl ?_
    refine T_bipush (v := 16) (pc := 60) d_Network_take_60 rfl ?_
    refine T_aald (pc := 62) d_Network_take_62 b25 (vp_in_nI (n := 16) (N := 17) (by decide) (by decide)) (r := q0) hlast ?_
    refine T_aret (pc := 63) d_Network_take_63 rfl rfl (Nat.le_refl _) ?_
    refine ⟨rfl, ⟨⟨by rw [List.length_append, hel]; rfl, ?_, fun q hq' => a3 q (hin q hq'), ?_⟩, ⟨_, ?_, b25, g5, fun i m' hm' => ?_⟩, fun q hq' => ?_, fun i m' q hm' hq' => ?_⟩, hby q0 _ (List.mem_of_getElem? hq) (c2 k m q0 hm hq), fun q hq' => o9 q (by omega) (by omega) (by omega)⟩
    · refine List.nodup_append.mpr ⟨List.Pairwise.sublist (List.eraseIdx_sublist ads k) a2n, List.pairwise_singleton _ _, fun x hx y hy e => ?_⟩
      obtain ⟨i, hik, hi⟩ := List.mem_eraseIdx_iff_getElem?.mp hx
      rw [List.mem_singleton.mp hy] at e
      exact nodup_ne a2n hi hq hik e
    · rw [List.length_eraseIdx_of_lt hk]
      omega
    · rw [b15, List.length_eraseIdx_of_lt hk]
    · rw [List.getElem?_eraseIdx] at hm'
      unfold shI
      by_cases hi : i < k
      · rw [if_pos hi] at hm'
        rw [if_neg (by omega)]
        exact b4 i m' hm'
      · rw [if_neg hi] at hm'
        have hl := (List.getElem?_eq_some_iff.mp hm').1
        rw [if_pos (by omega)]
        exact b4 (i + 1) m' hm'
    · obtain ⟨l, hl⟩ := c1 q (hin q hq')
      exact ⟨l, hby q l (hin q hq') hl⟩
    · have hm2 := hm'
      rw [List.getElem?_eraseIdx] at hm'
      have hil : i < ms.length - 1 := by
        have := (List.getElem?_eq_some_iff.mp hm2).1
        rw [List.length_eraseIdx_of_lt hk] at this
        exact this
      rw [List.getElem?_append_left (by omega), List.getElem?_eraseIdx] at hq'
      by_cases hi : i < k
      · rw [if_pos hi] at hm' hq'
        exact hby q _ (List.mem_of_getElem? hq') (c2 i m' q hm' hq')
      · rw [if_neg hi] at hm' hq'
        exact hby q _ (List.mem_of_getElem? hq') (c2 (i + 1) m' q hm' hq')
