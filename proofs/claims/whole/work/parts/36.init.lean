/-! Constructors: Format, Network, Server, Client. -/
def rws (n0 i : Nat) : List Nat := (List.range i).map (fun t => n0 + 2 * t + 1)
theorem rws_len (n0 i : Nat) : (rws n0 i).length = i := by simp [rws]
theorem rws_s (n0 i : Nat) : va_up (fun j => (rws n0 i)[j]?) i (some (n0 + 2 * i + 1)) = fun j => (rws n0 (i + 1))[j]? := by
  funext j
  have e : rws n0 (i + 1) = rws n0 i ++ [n0 + 2 * i + 1] := by simp [rws, List.range_succ]
  rw [e]
  by_cases hj : j = i
  · subst hj
    rw [va_up_self, List.getElem?_append_right (by rw [rws_len]; omega), rws_len, Nat.sub_self]
    rfl
  · rw [va_up_ne _ _ hj]
    by_cases h1 : j < i
    · rw [List.getElem?_append_left (by rw [rws_len]; exact h1)]
    · rw [List.getElem?_eq_none (l := rws n0 i ++ [n0 + 2 * i + 1]) (by rw [List.length_append, rws_len]; simp; omega)]
      exact List.getElem?_eq_none (by rw [rws_len]; omega)
theorem rws_at {n0 i t : Nat} (h : t < i) : (rws n0 i)[t]? = some (n0 + 2 * t + 1) := by
  simp [rws, List.getElem?_range h]
theorem rws_in {n0 i q : Nat} (h : q ∈ rws n0 i) : ∃ t, t < i ∧ q = n0 + 2 * t + 1 := by
  obtain ⟨t, ht, rfl⟩ := List.mem_map.mp h
  exact ⟨t, List.mem_range.mp ht, rfl⟩
theorem rws_nodup (n0 i : Nat) : (rws n0 i).Nodup := by
  refine List.pairwise_iff_getElem.mpr (fun a b ha hb hab => ?_)
  simp only [rws, List.getElem_map, List.getElem_range]
  omega
set_option maxRecDepth 100000 in
set_option maxHeartbeats 4000000 in
theorem c_Network_init_loop {w : Nat} {Z : aZ} : ∀ (k i : Nat) (h : aH), i + k = 17 → h w = some (.inr (3, [.ref (w + 1), .ref (w + 2), .int 0])) → h (w + 1) = some (.inl (a_tB, 17, .inr (fun j => (rws (w + 2) i)[j]?))) → (∀ t, t < i → By h ((w + 2) + 2 * t + 1) 156 []) → (∀ h', h' (w + 1) = some (.inl (a_tB, 17, .inr (fun j => (rws (w + 2) 17)[j]?))) → (∀ t, t < 17 → By h' ((w + 2) + 2 * t + 1) 156 []) → (∀ q, q ≤ (w + 2) → q ≠ (w + 1) → h' q = h q) → Tri M_Network_init (a_rm 2 36 2719) Z 59 [(1, .int 17), (0, .ref w)] [] ((w + 2) + 2 * 17) h' (2 + 2 * 17) (33 + 158 * 17)) → Tri M_Network_init (a_rm 2 36 2719) Z 28 [(1, .int (nI i)), (0, .ref w)] [] ((w + 2) + 2 * i) h (2 + 2 * i) (33 + 158 * i) := by
  intro k
  induction k with
  | zero =>
    intro i h hik hX hA hB hK
    have hi : i = 17 := by omega
    subst hi
    refine T_iload_n (pc := 28) d_Network_init_28 rfl ?_
    refine T_aload_n (pc := 29) d_Network_init_29 rfl ?_
    refine T_get (pc := 30) d_Network_init_30 sF_Network_13_Network hX rfl ?_
    refine T_alen (pc := 33) d_Network_init_33 hA (Or.inr (Or.inr rfl)) ?_
    refine T_icmp_ge (tgt := 59) (pc := 34) d_Network_init_34 (by decide) (fun q34 => ?_) (fun q34 => ?_)
    · exact hK h hA hB (fun _ _ _ => rfl)
    · exact absurd (nI_le (a := 17) (b := 17) (Nat.le_refl _) (by decide)) q34
  | succ k ih =>
    intro i h hik hX hA hB hK
    refine T_iload_n (pc := 28) d_Network_init_28 rfl ?_
    refine T_aload_n (pc := 29) d_Network_init_29 rfl ?_
    refine T_get (pc := 30) d_Network_init_30 sF_Network_13_Network hX rfl ?_
    refine T_alen (pc := 33) d_Network_init_33 hA (Or.inr (Or.inr rfl)) ?_
    refine T_icmp_ge (tgt := 59) (pc := 34) d_Network_init_34 (by decide) (fun q34 => ?_) (fun q34 => ?_)
    · exact absurd q34 (nI_ge (b := 17) (by omega) (by decide))
    · refine T_aload_n (pc := 37) d_Network_init_37 rfl ?_
      refine T_get (pc := 38) d_Network_init_38 sF_Network_13_Network hX rfl ?_
      refine T_iload_n (pc := 41) d_Network_init_41 rfl ?_
      refine T_new (pc := 42) d_Network_init_42 sN_Network_11 (by show 2 + 2 * i + 1 ≤ 36; omega) (by show 33 + 158 * i + 2 ≤ 2719; omega) (T_up (fun h1 g1 o1 => ?_))
      have hX1 := (o1 w (by omega)).trans hX
      have hA1 := (o1 (w + 1) (by omega)).trans hA
      refine T_dup (pc := 45) d_Network_init_45 rfl ?_
      refine T_sipush (v := 156) (pc := 46) d_Network_init_46 rfl ?_
      refine T_ivI (pc := 49) d_Network_init_49 sI_Network_25 (c_Bytes_init (cap := 156) g1 (by decide)) rfl rfl ⟨(Nat.le_of_ble_eq_true rfl), (Nat.le_of_ble_eq_true rfl)⟩ ⟨by show 2 + 2 * i + 1 + 1 ≤ 36; omega, by show 33 + 158 * i + 2 + 156 ≤ 2719; omega⟩ (Nat.le_of_ble_eq_true rfl) (fun r2 h2 q2 => ?_)
      obtain ⟨rfl, hb2, o2⟩ := q2
      have hX2 := (o2 w (by omega) (by omega)).trans hX1
      have hA2 := (o2 (w + 1) (by omega) (by omega)).trans hA1
      refine T_aast (pc := 52) d_Network_init_52 hA2 hb2.obj rfl rfl (vp_in_nI (by omega) (by decide)) (T_up (fun h3 g3 o3 => ?_))
      refine T_iinc (pc := 53) d_Network_init_53 rfl (nI_1 i) (Nat.le_of_ble_eq_true rfl) rfl ?_
      refine T_goto (tgt := 28) (pc := 56) d_Network_init_56 (by decide) (T_num (n' := (w + 2) + 2 * (i + 1)) (cells' := 2 + 2 * (i + 1)) (slots' := 33 + 158 * (i + 1)) (by omega) (by omega) (by omega) ?_)
      rw [nI_clamp (by omega)] at g3
      have g4 : h3 (w + 1) = some (.inl (a_tB, 17, .inr (fun j => (rws (w + 2) (i + 1))[j]?))) := by
        rw [g3]
        exact congrArg (fun z => some (Sum.inl (a_tB, 17, Sum.inr z))) (rws_s (w + 2) i)
      refine ih (i + 1) h3 (by omega) ((o3 w (by omega)).trans hX2) g4 (fun t ht => ?_) (fun h' k1 k2 k3 => hK h' k1 k2 (fun q z1 z2 => (k3 q z1 z2).trans ((o3 q z2).trans ((o2 q (by omega) (by omega)).trans (o1 q (by omega))))))
      by_cases hti : t = i
      · subst hti
        exact hb2.same (o3 _ (by omega)) (o3 _ (by omega))
      · have hb := hB t (by omega)
        exact hb.same ((o3 _ (by omega)).trans ((o2 _ (by omega) (by omega)).trans (o1 _ (by omega)))) ((o3 _ (by omega)).trans ((o2 _ (by omega) (by omega)).trans (o1 _ (by omega))))
set_option maxRecDepth 100000 in
set_option maxHeartbeats 4000000 in
theorem c_Network_init {w : Nat} {h : aH} (hX : h w = some (.inr (3, [.null, .null, .int 0]))) : Con M_Network_init 2 36 2719 w [.ref w] h (fun r h' => r = none ∧ Nw h' w (rws (w + 2) 17) [] ∧ ∀ q, q < w → h' q = h q) := by
  refine Con.of rfl (Nat.le_of_ble_eq_true rfl) ?_
  refine T_aload_n (pc := 0) d_Network_init_0 rfl ?_
  refine T_objInit (pc := 1) d_Network_init_1 sI_Network_3 ⟨(Nat.le_of_ble_eq_true rfl), (Nat.le_of_ble_eq_true rfl)⟩ (Nat.le_of_ble_eq_true rfl) ?_
  refine T_aload_n (pc := 4) d_Network_init_4 rfl ?_
  refine T_bipush (v := 17) (pc := 5) d_Network_init_5 rfl ?_
  refine T_newq (pc := 7) d_Network_init_7 (Ws_at (i := 6) (k := 21) rfl rfl) (List.mem_of_getElem? (i := 5) rfl) (by decide) rfl (by decide) (Nat.le_of_ble_eq_true rfl) (Nat.le_of_ble_eq_true rfl) (T_up (fun h7x1 g7x1 o7x1 => ?_))
  have hX_7x1 := (o7x1 w (by omega)).trans hX
  refine T_putF (pc := 10) d_Network_init_10 sFF_Network_13_Network rfl hX_7x1 (Nat.le_of_ble_eq_true rfl) (a_fit_a _ _) (T_up (fun h10x2 g10x2 o10x2 => ?_))
  have g7x1_10x2 := (o10x2 (w + 1) (by omega)).trans g7x1
  refine T_aload_n (pc := 13) d_Network_init_13 rfl ?_
  refine T_bipush (v := 16) (pc := 14) d_Network_init_14 rfl ?_
  refine T_newz (pc := 16) d_Network_init_16 (Ws_at (i := 6) (k := 23) rfl rfl) (by decide) rfl (by decide) (Nat.le_of_ble_eq_true rfl) (Nat.le_of_ble_eq_true rfl) (T_up (fun h16x3 g16x3 o16x3 => ?_))
  have g10x2_16x3 := (o16x3 w (by omega)).trans g10x2
  have g7x1_16x3 := (o16x3 (w + 1) (by omega)).trans g7x1_10x2
  refine T_putF (pc := 18) d_Network_init_18 sFF_Network_17_Network rfl g10x2_16x3 (Nat.le_of_ble_eq_true rfl) (a_fit_a _ _) (T_up (fun h18x4 g18x4 o18x4 => ?_))
  have g7x1_18x4 := (o18x4 (w + 1) (by omega)).trans g7x1_16x3
  have g16x3_18x4 := (o18x4 (w + 2) (by omega)).trans g16x3
  refine T_aload_n (pc := 21) d_Network_init_21 rfl ?_
  refine T_iconst (v := 0) (pc := 22) d_Network_init_22 rfl ?_
  refine T_put (pc := 23) d_Network_init_23 sF_Network_21_Network g18x4 (Nat.le_of_ble_eq_true rfl) (a_fit_i _) (T_up (fun h23x5 g23x5 o23x5 => ?_))
  have g7x1_23x5 := (o23x5 (w + 1) (by omega)).trans g7x1_18x4
  have g16x3_23x5 := (o23x5 (w + 2) (by omega)).trans g16x3_18x4
  refine T_iconst (v := 0) (pc := 26) d_Network_init_26 rfl ?_
  refine T_istore_n (pc := 27) d_Network_init_27 rfl (Nat.le_of_ble_eq_true rfl) rfl ?_
  refine T_num (n' := w + 2 + 2 * 0) (cells' := 2 + 2 * 0) (slots' := 33 + 158 * 0) rfl rfl rfl ?_
  refine c_Network_init_loop 17 0 h23x5 rfl g23x5 g7x1_23x5 (fun t ht => absurd ht (Nat.not_lt_zero t)) (fun h5 k1 k2 k3 => ?_)
  refine T_vret (pc := 59) d_Network_init_59 rfl rfl (by decide) ?_
  refine ⟨rfl, ⟨⟨rws_len _ _, rws_nodup _ _, fun q hq => ?_, by decide⟩, ⟨_, (k3 w (by omega) (by omega)).trans g23x5, k1, (k3 (w + 2) (by omega) (by omega)).trans g16x3_23x5, fun i m hm => by simp at hm⟩, fun q hq => ?_, fun i m q hm => by simp at hm⟩, fun q hq => ?_⟩
  · obtain ⟨t, ht, rfl⟩ := rws_in hq
    omega
  · obtain ⟨t, ht, rfl⟩ := rws_in hq
    exact ⟨[], k2 t ht⟩
  · rw [k3 q (by omega) (by omega), o23x5 q (by omega), o18x4 q (by omega), o16x3 q (by omega), o10x2 q (by omega), o7x1 q (by omega)]
