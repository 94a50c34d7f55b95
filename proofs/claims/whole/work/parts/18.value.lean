/-! OnceWire$Value: a list of ints for each field. -/
def Va (h : aH) (v sa : Nat) (ns : List Sf) (vs : List (List Int32)) : Prop := vs.length = ns.length ∧ ∃ g c : Nat → Int32, h v = some (.inr (8, [.ref sa, .ref (v + 1), .ref (v + 2)])) ∧ h (v + 1) = some (.inl (.int, 16, .inl g)) ∧ h (v + 2) = some (.inl (.int, 4, .inl c)) ∧ (∀ i t w, ns[i]? = some t → vs[i]? = some w → (∀ j, j < w.length → w[j]? = some (g (4 * i + j))) ∧ w.length ≤ 4 ∧ (t.2.2 = true → c i = nI w.length) ∧ (t.2.2 = false → w.length = 1)) ∧ ∀ i, ns.length ≤ i → i < 4 → c i = 0 ∧ g (4 * i) = 0
def vnil (ns : List Sf) : List (List Int32) := ns.map (fun t => if t.2.2 then [] else [0])
theorem Va.obj {h : aH} {v sa : Nat} {ns : List Sf} {vs : List (List Int32)} (hv : Va h v sa ns vs) : h v = some (.inr (8, [.ref sa, .ref (v + 1), .ref (v + 2)])) := by
  obtain ⟨_, _, _, q, _⟩ := hv
  exact q
theorem Va.same {h h' : aH} {v sa : Nat} {ns : List Sf} {vs : List (List Int32)} (hv : Va h v sa ns vs) (o : ∀ q, v ≤ q → q ≤ v + 2 → h' q = h q) : Va h' v sa ns vs := by
  obtain ⟨q0, g, c, q1, q2, q3, q4⟩ := hv
  exact ⟨q0, g, c, (o v (by omega) (by omega)).trans q1, (o _ (by omega) (by omega)).trans q2, (o _ (by omega) (by omega)).trans q3, q4⟩
theorem Va.le4 {h : aH} {v sa : Nat} {ns : List Sf} {vs : List (List Int32)} (hv : Va h v sa ns vs) {i : Nat} {t : Sf} {w : List Int32} (ht : ns[i]? = some t) (hw : vs[i]? = some w) : w.length ≤ 4 := by
  obtain ⟨_, _, _, _, _, _, q, _⟩ := hv
  exact (q i t w ht hw).2.1
/-- a field more: the cells of an untouched one -/
theorem Va.add {h : aH} {v sa : Nat} {ns : List Sf} {vs : List (List Int32)} (hv : Va h v sa ns vs) (t : Sf) (hl : ns.length < 4) : Va h v sa (ns ++ [t]) (vs ++ [if t.2.2 then [] else [0]]) := by
  obtain ⟨q0, g, c, q1, q2, q3, q4, q5⟩ := hv
  refine ⟨by simp [q0], g, c, q1, q2, q3, fun i t' w ht hw => ?_, fun i h1 h2 => q5 i (by simp at h1; omega) h2⟩
  by_cases hi : i < ns.length
  · rw [List.getElem?_append_left hi] at ht
    rw [List.getElem?_append_left (by omega)] at hw
    exact q4 i t' w ht hw
  · have hi2 : i = ns.length := by
      have := (List.getElem?_eq_some_iff.mp ht).1
      simp at this
      omega
    subst hi2
    obtain ⟨z1, z2⟩ := q5 ns.length (Nat.le_refl _) hl
    rw [List.getElem?_append_right (Nat.le_refl _), Nat.sub_self] at ht
    rw [List.getElem?_append_right (by omega), q0, Nat.sub_self] at hw
    cases ht
    cases hw
    cases hb : t.2.2
    · refine ⟨fun j hj => ?_, by simp, fun e => by simp at e, fun _ => by simp⟩
      have hj0 : j = 0 := by simp at hj; omega
      subst hj0
      simp [z2]
    · refine ⟨fun j hj => by simp at hj, by simp, fun _ => by rw [z1]; rfl, fun e => by simp at e⟩
set_option maxRecDepth 100000 in
set_option maxHeartbeats 4000000 in
theorem c_Value_init {v sa : Nat} {h : aH} (hV : h v = some (.inr (8, [.null, .null, .null]))) : Con M_Value_init 1 2 20 v [.ref v, .ref sa] h (fun r h' => r = none ∧ Va h' v sa [] [] ∧ ∀ q, q < v ∨ v + 2 < q → h' q = h q) := by
  refine Con.of rfl (Nat.le_of_ble_eq_true rfl) ?_
  refine T_aload_n (pc := 0) d_Value_init_0 rfl ?_
  refine T_objInit (pc := 1) d_Value_init_1 sI_Value_1 ⟨(Nat.le_of_ble_eq_true rfl), (Nat.le_of_ble_eq_true rfl)⟩ (Nat.le_of_ble_eq_true rfl) ?_
  refine T_aload_n (pc := 4) d_Value_init_4 rfl ?_
  refine T_bipush (v := 16) (pc := 5) d_Value_init_5 rfl ?_
  refine T_newi (pc := 7) d_Value_init_7 (Ws_at (i := 5) (k := 30) rfl rfl) (by decide) rfl (by decide) (Nat.le_of_ble_eq_true rfl) (Nat.le_of_ble_eq_true rfl) (T_up (fun h7x1 g7x1 o7x1 => ?_))
  have hV_7x1 := (o7x1 v (by omega)).trans hV
  refine T_putF (pc := 9) d_Value_init_9 sFF_Value_11_Value rfl hV_7x1 (Nat.le_of_ble_eq_true rfl) (a_fit_a _ _) (T_up (fun h9x2 g9x2 o9x2 => ?_))
  have g7x1_9x2 := (o9x2 (v + 1) (by omega)).trans g7x1
  refine T_aload_n (pc := 12) d_Value_init_12 rfl ?_
  refine T_iconst (v := 4) (pc := 13) d_Value_init_13 rfl ?_
  refine T_newi (pc := 14) d_Value_init_14 (Ws_at (i := 5) (k := 30) rfl rfl) (by decide) rfl (by decide) (Nat.le_of_ble_eq_true rfl) (Nat.le_of_ble_eq_true rfl) (T_up (fun h14x3 g14x3 o14x3 => ?_))
  have g9x2_14x3 := (o14x3 v (by omega)).trans g9x2
  have g7x1_14x3 := (o14x3 (v + 1) (by omega)).trans g7x1_9x2
  refine T_putF (pc := 16) d_Value_init_16 sFF_Value_15_Value rfl g9x2_14x3 (Nat.le_of_ble_eq_true rfl) (a_fit_a _ _) (T_up (fun h16x4 g16x4 o16x4 => ?_))
  have g7x1_16x4 := (o16x4 (v + 1) (by omega)).trans g7x1_14x3
  have g14x3_16x4 := (o16x4 (v + 2) (by omega)).trans g14x3
  refine T_aload_n (pc := 19) d_Value_init_19 rfl ?_
  refine T_aload_n (pc := 20) d_Value_init_20 rfl ?_
  refine T_putF (pc := 21) d_Value_init_21 sFF_Value_18_Value rfl g16x4 (Nat.le_of_ble_eq_true rfl) (a_fit_o _ _) (T_up (fun h21x5 g21x5 o21x5 => ?_))
  have g7x1_21x5 := (o21x5 (v + 1) (by omega)).trans g7x1_16x4
  have g14x3_21x5 := (o21x5 (v + 2) (by omega)).trans g14x3_16x4
  refine T_vret (pc := 24) d_Value_init_24 rfl rfl (Nat.le_refl _) ?_
  refine ⟨rfl, ⟨rfl, _, _, g21x5, g7x1_21x5, g14x3_21x5, fun i t w ht => by simp at ht, fun i _ _ => ⟨rfl, rfl⟩⟩, fun q hq => ?_⟩
  rw [o21x5 q (by omega), o16x4 q (by omega), o14x3 q (by omega), o9x2 q (by omega), o7x1 q (by omega)]
set_option maxRecDepth 100000 in
set_option maxHeartbeats 4000000 in
theorem c_Value_countOf {n v sa i : Nat} {h : aH} {ns : List Sf} {vs : List (List Int32)} {t : Sf} {w : List Int32} (hs : Sc h sa ns) (hv : Va h v sa ns vs) (ht : ns[i]? = some t) (hw : vs[i]? = some w) : Con M_Value_countOf 1 0 0 n [.ref v, .int (nI i)] h (fun r h' => r = some (.int (nI w.length)) ∧ h' = h) := by
  have hi := ge_lt ht
  have hle := hs.le
  obtain ⟨fn, fk, fe, fr, hS, hN, hK, hE, hR, hl, hf⟩ := id hs
  obtain ⟨hvl, g, c, hV, hG, hC, hgc, hz⟩ := id hv
  have ht1 := hf i t ht
  obtain ⟨hw1, hw2, hw3, hw4⟩ := hgc i t w ht hw
  refine Con.of rfl (Nat.le_of_ble_eq_true rfl) ?_
  refine T_aload_n (pc := 0) d_Value_countOf_0 rfl ?_
  refine T_get (pc := 1) d_Value_countOf_1 sF_Value_18_Value hV rfl ?_
  refine T_iload_n (pc := 4) d_Value_countOf_4 rfl ?_
  refine T_ivV (pc := 5) d_Value_countOf_5 sI_Value_22 (c_Schema_has hs) hs.obj rfl rfl ⟨(Nat.le_of_ble_eq_true rfl), (Nat.le_of_ble_eq_true rfl)⟩ ⟨(Nat.le_of_ble_eq_true rfl), (Nat.le_of_ble_eq_true rfl)⟩ (Nat.le_of_ble_eq_true rfl) (fun r1 h1 q1 => ?_)
  obtain ⟨rfl, e1⟩ := q1
  rw [e1, if_pos (in_has hi (by omega))]
  refine T_if_ne (tgt := 13) (pc := 8) d_Value_countOf_8 (by decide) (fun q8 => ?_) (fun q8 => ?_)
  · refine T_aload_n (pc := 13) d_Value_countOf_13 rfl ?_
    refine T_get (pc := 14) d_Value_countOf_14 sF_Value_18_Value hV rfl ?_
    refine T_get (pc := 17) d_Value_countOf_17 sF_Value_26_Schema hS rfl ?_
    refine T_iload_n (pc := 20) d_Value_countOf_20 rfl ?_
    refine T_zald (pc := 21) d_Value_countOf_21 hR (vp_in_nI (by omega) (by decide)) ?_
    refine T_if_eq (tgt := 34) (pc := 22) d_Value_countOf_22 (by decide) (fun q22 => ?_) (fun q22 => ?_)
    · refine T_iconst (v := 1) (pc := 34) d_Value_countOf_34 rfl ?_
      refine T_iret (pc := 35) d_Value_countOf_35 rfl rfl (Nat.le_refl _) ?_
      refine ⟨?_, rfl⟩
      rw [nI_clamp (by omega), ht1.2.2.2.1] at q22
      first
        | (rw [nI_clamp (by omega), hw3 (by cases hb : t.2.2 <;> simp_all [bI])]; done)
        | (rw [hw4 (by cases hb : t.2.2 <;> simp_all [bI])]; rfl)
    · refine T_aload_n (pc := 25) d_Value_countOf_25 rfl ?_
      refine T_get (pc := 26) d_Value_countOf_26 sF_Value_15_Value hV rfl ?_
      refine T_iload_n (pc := 29) d_Value_countOf_29 rfl ?_
      refine T_iald (pc := 30) d_Value_countOf_30 hC (vp_in_nI (by omega) (by decide)) ?_
      refine T_goto (tgt := 35) (pc := 31) d_Value_countOf_31 (by decide) ?_
      refine T_iret (pc := 35) d_Value_countOf_35 rfl rfl (Nat.le_refl _) ?_
      refine ⟨?_, rfl⟩
      rw [nI_clamp (by omega), ht1.2.2.2.1] at q22
      first
        | (rw [nI_clamp (by omega), hw3 (by cases hb : t.2.2 <;> simp_all [bI])]; done)
        | (rw [hw4 (by cases hb : t.2.2 <;> simp_all [bI])]; rfl)
  · exact absurd q8 (by decide)
set_option maxRecDepth 100000 in
set_option maxHeartbeats 4000000 in
theorem c_Value_intOf {n v sa i : Nat} {h : aH} {ns : List Sf} {vs : List (List Int32)} {t : Sf} {w : List Int32} (hs : Sc h sa ns) (hv : Va h v sa ns vs) (ht : ns[i]? = some t) (hw : vs[i]? = some w) {j : Nat} {x : Int32} (hj : w[j]? = some x) : Con M_Value_intOf 2 0 0 n [.ref v, .int (nI i), .int (nI j)] h (fun r h' => r = some (.int x) ∧ h' = h) := by
  have hi := ge_lt ht
  have hle := hs.le
  obtain ⟨fn, fk, fe, fr, hS, hN, hK, hE, hR, hl, hf⟩ := id hs
  obtain ⟨hvl, g, c, hV, hG, hC, hgc, hz⟩ := id hv
  have ht1 := hf i t ht
  obtain ⟨hw1, hw2, hw3, hw4⟩ := hgc i t w ht hw
  have hj1 : j < w.length := (List.getElem?_eq_some_iff.mp hj).1
  have ei : nI i * 4 + nI j = nI (4 * i + j) := by
    rw [show nI i * 4 = nI (i * 4) from pk_mul i 4, nI_add, Nat.mul_comm]
  refine Con.of rfl (Nat.le_of_ble_eq_true rfl) ?_
  refine T_iload_n (pc := 0) d_Value_intOf_0 rfl ?_
  refine T_if_lt (tgt := 26) (pc := 1) d_Value_intOf_1 (by decide) (fun q1 => ?_) (fun q1 => ?_)
  · first | exact absurd q1 (nI_pos (by omega)) | exact absurd q10 (nI_ge hj1 (by omega))
  · refine T_iload_n (pc := 4) d_Value_intOf_4 rfl ?_
    refine T_aload_n (pc := 5) d_Value_intOf_5 rfl ?_
    refine T_iload_n (pc := 6) d_Value_intOf_6 rfl ?_
    refine T_ivV (pc := 7) d_Value_intOf_7 sI_Value_30 (c_Value_countOf hs hv ht hw) hv.obj rfl rfl ⟨(Nat.le_of_ble_eq_true rfl), (Nat.le_of_ble_eq_true rfl)⟩ ⟨(Nat.le_of_ble_eq_true rfl), (Nat.le_of_ble_eq_true rfl)⟩ (Nat.le_of_ble_eq_true rfl) (fun r1 h1 q1 => ?_)
    obtain ⟨rfl, e1⟩ := q1
    rw [e1]
    refine T_icmp_ge (tgt := 26) (pc := 10) d_Value_intOf_10 (by decide) (fun q10 => ?_) (fun q10 => ?_)
    · first | exact absurd q1 (nI_pos (by omega)) | exact absurd q10 (nI_ge hj1 (by omega))
    · refine T_aload_n (pc := 13) d_Value_intOf_13 rfl ?_
      refine T_get (pc := 14) d_Value_intOf_14 sF_Value_11_Value hV rfl ?_
      refine T_iload_n (pc := 17) d_Value_intOf_17 rfl ?_
      refine T_iconst (v := 4) (pc := 18) d_Value_intOf_18 rfl ?_
      refine T_imul (pc := 19) d_Value_intOf_19 ?_
      refine T_iload_n (pc := 20) d_Value_intOf_20 rfl ?_
      refine T_iadd (pc := 21) d_Value_intOf_21 ?_
      refine T_iald (pc := 22) d_Value_intOf_22 hG (by rw [ei]; exact vp_in_nI (by omega) (by decide)) ?_
      refine T_goto (tgt := 27) (pc := 23) d_Value_intOf_23 (by decide) ?_
      refine T_iret (pc := 27) d_Value_intOf_27 rfl rfl (Nat.le_refl _) ?_
      refine ⟨?_, rfl⟩
      rw [ei, nI_clamp (by omega)]
      exact congrArg (fun z => some (Value.int z)) (Option.some.inj ((hw1 j hj1).symm.trans hj))
set_option maxRecDepth 100000 in
set_option maxHeartbeats 4000000 in
theorem c_Value_store {n v sa i : Nat} {h : aH} {ns : List Sf} {vs : List (List Int32)} {t : Sf} {w : List Int32} (hs : Sc h sa ns) (hv : Va h v sa ns vs) (ht : ns[i]? = some t) (hw : vs[i]? = some w) {x : Int32} (hd : sa + 4 < v) : Con M_Value_store 1 0 0 n [.ref v, .int (nI i), .int x] h (fun r h' => (if t.2.2 then (if w.length < 4 then r = some (.int 1) ∧ Va h' v sa ns (vs.set i (w ++ [x])) else r = some (.int 0) ∧ h' = h) else r = some (.int 1) ∧ Va h' v sa ns (vs.set i [x])) ∧ ∀ q, q ≠ v + 1 → q ≠ v + 2 → h' q = h q) := by
  have hi := ge_lt ht
  have hle := hs.le
  obtain ⟨fn, fk, fe, fr, hS, hN, hK, hE, hR, hl, hf⟩ := id hs
  obtain ⟨hvl, g, c, hV, hG, hC, hgc, hz⟩ := id hv
  have ht1 := hf i t ht
  obtain ⟨hw1, hw2, hw3, hw4⟩ := hgc i t w ht hw
  have ei4 : nI i * 4 = nI (4 * i) := by
    rw [show nI i * 4 = nI (i * 4) from pk_mul i 4, Nat.mul_comm]
  refine Con.of rfl (Nat.le_of_ble_eq_true rfl) ?_
  refine T_aload_n (pc := 0) d_Value_store_0 rfl ?_
  refine T_get (pc := 1) d_Value_store_1 sF_Value_18_Value hV rfl ?_
  refine T_iload_n (pc := 4) d_Value_store_4 rfl ?_
  refine T_ivV (pc := 5) d_Value_store_5 sI_Value_22 (c_Schema_has hs) hs.obj rfl rfl ⟨(Nat.le_of_ble_eq_true rfl), (Nat.le_of_ble_eq_true rfl)⟩ ⟨(Nat.le_of_ble_eq_true rfl), (Nat.le_of_ble_eq_true rfl)⟩ (Nat.le_of_ble_eq_true rfl) (fun r1 h1 q1 => ?_)
  obtain ⟨rfl, e1⟩ := q1
  rw [e1, if_pos (in_has hi (by omega))]
  refine T_if_ne (tgt := 13) (pc := 8) d_Value_store_8 (by decide) (fun q8 => ?_) (fun q8 => ?_)
  · refine T_aload_n (pc := 13) d_Value_store_13 rfl ?_
    refine T_get (pc := 14) d_Value_store_14 sF_Value_18_Value hV rfl ?_
    refine T_get (pc := 17) d_Value_store_17 sF_Value_26_Schema hS rfl ?_
    refine T_iload_n (pc := 20) d_Value_store_20 rfl ?_
    refine T_zald (pc := 21) d_Value_store_21 hR (vp_in_nI (by omega) (by decide)) ?_
    refine T_if_ne (tgt := 36) (pc := 22) d_Value_store_22 (by decide) (fun q22 => ?_) (fun q22 => ?_)
    · refine T_aload_n (pc := 36) d_Value_store_36 rfl ?_
      refine T_get (pc := 37) d_Value_store_37 sF_Value_15_Value hV rfl ?_
      refine T_iload_n (pc := 40) d_Value_store_40 rfl ?_
      refine T_iald (pc := 41) d_Value_store_41 hC (vp_in_nI (by omega) (by decide)) ?_
      refine T_iconst (v := 4) (pc := 42) d_Value_store_42 rfl ?_
      refine T_icmp_lt (tgt := 48) (pc := 43) d_Value_store_43 (by decide) (fun q43 => ?_) (fun q43 => ?_)
      · rw [nI_clamp (by omega), ht1.2.2.2.1] at q22
        have hb : t.2.2 = true := by cases hb : t.2.2 <;> simp_all [bI]
        have hw5 : w.length < 4 := by
          rw [nI_clamp (by omega), hw3 hb] at q43
          exact (nI_ltI (b := 4) (by omega) (by decide)).mp q43
        have ei : nI i * 4 + nI w.length = nI (4 * i + w.length) := by
          rw [show nI i * 4 = nI (i * 4) from pk_mul i 4, nI_add, Nat.mul_comm]
        refine T_aload_n (pc := 48) d_Value_store_48 rfl ?_
        refine T_get (pc := 49) d_Value_store_49 sF_Value_11_Value hV rfl ?_
        refine T_iload_n (pc := 52) d_Value_store_52 rfl ?_
        refine T_iconst (v := 4) (pc := 53) d_Value_store_53 rfl ?_
        refine T_imul (pc := 54) d_Value_store_54 ?_
        refine T_aload_n (pc := 55) d_Value_store_55 rfl ?_
        refine T_get (pc := 56) d_Value_store_56 sF_Value_15_Value hV rfl ?_
        refine T_iload_n (pc := 59) d_Value_store_59 rfl ?_
        refine T_iald (pc := 60) d_Value_store_60 hC (vp_in_nI (by omega) (by decide)) ?_
        refine T_iadd (pc := 61) d_Value_store_61 ?_
        refine T_iload_n (pc := 62) d_Value_store_62 rfl ?_
        refine T_iast (pc := 63) d_Value_store_63 (Nat.succ_ne_zero _) hG (by rw [nI_clamp (by omega), hw3 hb, ei]; exact vp_in_nI (by omega) (by decide)) (T_up (fun h63x1 g63x1 o63x1 => ?_))
        have hV_63x1 := (o63x1 v (by omega)).trans hV
        have hC_63x1 := (o63x1 (v + 2) (by omega)).trans hC
        have hS_63x1 := (o63x1 sa (by omega)).trans hS
        have hR_63x1 := (o63x1 (sa + 4) (by omega)).trans hR
        refine T_aload_n (pc := 64) d_Value_store_64 rfl ?_
        refine T_get (pc := 65) d_Value_store_65 sF_Value_15_Value hV_63x1 rfl ?_
        refine T_iload_n (pc := 68) d_Value_store_68 rfl ?_
        refine T_dup2 (pc := 69) d_Value_store_69 rfl rfl ?_
        refine T_iald (pc := 70) d_Value_store_70 hC_63x1 (vp_in_nI (by omega) (by decide)) ?_
        refine T_iconst (v := 1) (pc := 71) d_Value_store_71 rfl ?_
        refine T_iadd (pc := 72) d_Value_store_72 ?_
        refine T_iast (pc := 73) d_Value_store_73 (Nat.succ_ne_zero _) hC_63x1 (vp_in_nI (by omega) (by decide)) (T_up (fun h73x2 g73x2 o73x2 => ?_))
        have hV_73x2 := (o73x2 v (by omega)).trans hV_63x1
        have g63x1_73x2 := (o73x2 (v + 1) (by omega)).trans g63x1
        have hS_73x2 := (o73x2 sa (by omega)).trans hS_63x1
        have hR_73x2 := (o73x2 (sa + 4) (by omega)).trans hR_63x1
        refine T_iconst (v := 1) (pc := 74) d_Value_store_74 rfl ?_
        refine T_zret (pc := 75) d_Value_store_75 rfl (by decide) rfl (Nat.le_refl _) ?_
        refine ⟨?_, fun q h1 h2 => (o73x2 q h2).trans (o63x1 q h1)⟩
        rw [hb, if_pos hw5]
        refine ⟨rfl, by simp [hvl], _, _, hV_73x2, g63x1_73x2, g73x2, fun i' t' w' ht' hw' => ?_, fun i' h1 h2 => ?_⟩
        · rw [nI_clamp (by omega), hw3 hb, ei, nI_clamp (by omega), nI_1]
          by_cases hii : i' = i
          · subst hii
            rw [List.getElem?_set_self (by omega)] at hw'
            cases hw'
            cases ht.symm.trans ht'
            rw [pk_us]
            refine ⟨fun j hj => ?_, by simp; omega, fun _ => by simp, fun e => absurd (hb.symm.trans e) (by decide)⟩
            by_cases hjj : j = w.length
            · subst hjj
              rw [pk_us, List.getElem?_append_right (Nat.le_refl _), Nat.sub_self]
              rfl
            · have hj2 : j < w.length := by simp at hj; omega
              rw [pk_un (by omega), List.getElem?_append_left hj2]
              exact hw1 j hj2
          · rw [List.getElem?_set_ne (Ne.symm hii)] at hw'
            obtain ⟨z1, z2, z3, z4⟩ := hgc i' t' w' ht' hw'
            rw [pk_un hii]
            refine ⟨fun j hj => ?_, z2, z3, z4⟩
            rw [pk_un (by omega)]
            exact z1 j hj
        · rw [nI_clamp (by omega), hw3 hb, ei, nI_clamp (by omega), pk_un (by omega), pk_un (by omega)]
          exact hz i' h1 h2
      · refine T_iconst (v := 0) (pc := 46) d_Value_store_46 rfl ?_
        refine T_zret (pc := 47) d_Value_store_47 rfl (by decide) rfl (Nat.le_refl _) ?_
        refine ⟨?_, fun q h1 h2 => rfl⟩
        rw [nI_clamp (by omega), ht1.2.2.2.1] at q22
        have hb : t.2.2 = true := by cases hb : t.2.2 <;> simp_all [bI]
        rw [nI_clamp (by omega), hw3 hb] at q43
        rw [hb, if_neg (fun q => q43 (nI_lt (b := 4) q (by decide)))]
        exact ⟨rfl, rfl⟩
    · refine T_aload_n (pc := 25) d_Value_store_25 rfl ?_
      refine T_get (pc := 26) d_Value_store_26 sF_Value_11_Value hV rfl ?_
      refine T_iload_n (pc := 29) d_Value_store_29 rfl ?_
      refine T_iconst (v := 4) (pc := 30) d_Value_store_30 rfl ?_
      refine T_imul (pc := 31) d_Value_store_31 ?_
      refine T_iload_n (pc := 32) d_Value_store_32 rfl ?_
      refine T_iast (pc := 33) d_Value_store_33 (Nat.succ_ne_zero _) hG (by rw [ei4]; exact vp_in_nI (by omega) (by decide)) (T_up (fun h33x3 g33x3 o33x3 => ?_))
      have hV_33x3 := (o33x3 v (by omega)).trans hV
      have hC_33x3 := (o33x3 (v + 2) (by omega)).trans hC
      have hS_33x3 := (o33x3 sa (by omega)).trans hS
      have hR_33x3 := (o33x3 (sa + 4) (by omega)).trans hR
      refine T_iconst (v := 1) (pc := 34) d_Value_store_34 rfl ?_
      refine T_zret (pc := 35) d_Value_store_35 rfl (by decide) rfl (Nat.le_refl _) ?_
      refine ⟨?_, fun q h1 h2 => o33x3 q h1⟩
      rw [nI_clamp (by omega), ht1.2.2.2.1] at q22
      have hb : t.2.2 = false := by cases hb : t.2.2 <;> simp_all [bI]
      rw [hb]
      refine ⟨rfl, by simp [hvl], _, _, hV_33x3, g33x3, hC_33x3, fun i' t' w' ht' hw' => ?_, fun i' h1 h2 => ?_⟩
      · rw [ei4, nI_clamp (by omega)]
        by_cases hii : i' = i
        · subst hii
          rw [List.getElem?_set_self (by omega)] at hw'
          cases hw'
          cases ht.symm.trans ht'
          refine ⟨fun j hj => ?_, by simp, fun e => absurd (hb.symm.trans e) (by decide), fun _ => rfl⟩
          have hj0 : j = 0 := by simp at hj; omega
          subst hj0
          rw [Nat.add_zero, pk_us]
          rfl
        · rw [List.getElem?_set_ne (Ne.symm hii)] at hw'
          obtain ⟨z1, z2, z3, z4⟩ := hgc i' t' w' ht' hw'
          refine ⟨fun j hj => ?_, z2, z3, z4⟩
          rw [pk_un (by omega)]
          exact z1 j hj
      · rw [ei4, nI_clamp (by omega), pk_un (by omega)]
        exact hz i' h1 h2
  · exact absurd q8 (by decide)
