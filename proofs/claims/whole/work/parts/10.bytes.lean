/-! OnceWire$Bytes: a row of bytes as a list. -/
/-- at a: a row that holds l, with room for cap -/
def By (h : aH) (a cap : Nat) (l : List Int32) : Prop := ∃ f : Nat → Int32, h a = some (.inr (1, [.ref (a + 1), .int (nI l.length)])) ∧ h (a + 1) = some (.inl (.int, cap, .inl f)) ∧ l.length ≤ cap ∧ ∀ i, i < l.length → l[i]? = some (f i)
theorem By.le {h : aH} {a cap : Nat} {l : List Int32} (hb : By h a cap l) : l.length ≤ cap := by
  obtain ⟨f, _, _, hl, _⟩ := hb
  exact hl
theorem By.same {h h' : aH} {a cap : Nat} {l : List Int32} (hb : By h a cap l) (h1 : h' a = h a) (h2 : h' (a + 1) = h (a + 1)) : By h' a cap l := by
  obtain ⟨f, q1, q2, q3, q4⟩ := hb
  exact ⟨f, h1.trans q1, h2.trans q2, q3, q4⟩
set_option maxRecDepth 100000 in
set_option maxHeartbeats 4000000 in
theorem c_Bytes_clear {n a cap : Nat} {h : aH} {l : List Int32} (hb : By h a cap l) : Con M_Bytes_clear 0 0 0 n [.ref a] h (fun r h' => r = none ∧ By h' a cap [] ∧ ∀ q, q ≠ a → h' q = h q) := by
  obtain ⟨f, hB, hA, hl, hf⟩ := hb
  have ne : a + 1 ≠ a := by omega
  refine Con.of rfl (Nat.le_of_ble_eq_true rfl) ?_
  refine T_aload_n (pc := 0) d_Bytes_clear_0 rfl ?_
  refine T_iconst (v := 0) (pc := 1) d_Bytes_clear_1 rfl ?_
  refine T_put (pc := 2) d_Bytes_clear_2 sF_Bytes_15_Bytes hB (Nat.le_of_ble_eq_true rfl) (a_fit_i _) (T_up (fun h2x1 g2x1 o2x1 => ?_))
  have hA_2x1 := (o2x1 (a + 1) ne).trans hA
  refine T_vret (pc := 5) d_Bytes_clear_5 rfl rfl (Nat.le_refl _) ?_
  exact ⟨rfl, ⟨f, g2x1, hA_2x1, Nat.zero_le _, fun i hi => absurd hi (Nat.not_lt_zero i)⟩, o2x1⟩
set_option maxRecDepth 100000 in
set_option maxHeartbeats 4000000 in
theorem c_Bytes_append {n a cap : Nat} {h : aH} {x : Int32} {l : List Int32} (hb : By h a cap l) (hc : cap < 2 ^ 31) : Con M_Bytes_append 0 0 0 n [.ref a, .int x] h (fun r h' => if l.length < cap then r = some (.int 1) ∧ By h' a cap (l ++ [x]) ∧ (∀ q, q ≠ a → q ≠ a + 1 → h' q = h q) else r = some (.int 0) ∧ h' = h) := by
  obtain ⟨f, hB, hA, hl, hf⟩ := hb
  have ne : a + 1 ≠ a := by omega
  refine Con.of rfl (Nat.le_of_ble_eq_true rfl) ?_
  refine T_aload_n (pc := 0) d_Bytes_append_0 rfl ?_
  refine T_get (pc := 1) d_Bytes_append_1 sF_Bytes_15_Bytes hB rfl ?_
  refine T_aload_n (pc := 4) d_Bytes_append_4 rfl ?_
  refine T_get (pc := 5) d_Bytes_append_5 sF_Bytes_9_Bytes hB rfl ?_
  refine T_alen (pc := 8) d_Bytes_append_8 hA (Or.inl rfl) ?_
  refine T_icmp_lt (tgt := 14) (pc := 9) d_Bytes_append_9 (by decide) (fun q9 => ?_) (fun q9 => ?_)
  · have ql : l.length < cap := (nI_ltI (by omega) hc).mp q9
    refine T_aload_n (pc := 14) d_Bytes_append_14 rfl ?_
    refine T_get (pc := 15) d_Bytes_append_15 sF_Bytes_9_Bytes hB rfl ?_
    refine T_aload_n (pc := 18) d_Bytes_append_18 rfl ?_
    refine T_get (pc := 19) d_Bytes_append_19 sF_Bytes_15_Bytes hB rfl ?_
    refine T_iload_n (pc := 22) d_Bytes_append_22 rfl ?_
    refine T_iast (pc := 23) d_Bytes_append_23 (Nat.succ_ne_zero a) hA (vp_in_nI ql hc) (T_up (fun h23x1 g23x1 o23x1 => ?_))
    have hB_23x1 := (o23x1 a (Ne.symm ne)).trans hB
    refine T_aload_n (pc := 24) d_Bytes_append_24 rfl ?_
    refine T_dup (pc := 25) d_Bytes_append_25 rfl ?_
    refine T_get (pc := 26) d_Bytes_append_26 sF_Bytes_15_Bytes hB_23x1 rfl ?_
    refine T_iconst (v := 1) (pc := 29) d_Bytes_append_29 rfl ?_
    refine T_iadd (pc := 30) d_Bytes_append_30 ?_
    refine T_put (pc := 31) d_Bytes_append_31 sF_Bytes_15_Bytes hB_23x1 (Nat.le_of_ble_eq_true rfl) (a_fit_i _) (T_up (fun h31x2 g31x2 o31x2 => ?_))
    have g23x1_31x2 := (o31x2 (a + 1) ne).trans g23x1
    refine T_iconst (v := 1) (pc := 34) d_Bytes_append_34 rfl ?_
    refine T_zret (pc := 35) d_Bytes_append_35 rfl (by decide) rfl (Nat.le_refl _) ?_
    rw [if_pos ql]
    have g31x2' : h31x2 a = some (.inr (1, [.ref (a + 1), .int (nI (l ++ [x]).length)])) := by
      rw [g31x2, nI_1, List.length_append]
      rfl
    refine ⟨rfl, ⟨_, g31x2', g23x1_31x2, by rw [List.length_append]; exact ql, fun i hi => ?_⟩, fun q h1 h2 => (o31x2 q h1).trans (o23x1 q h2)⟩
    rw [nI_clamp (by omega)]
    rw [List.length_append] at hi
    by_cases hi2 : i = l.length
    · subst hi2
      rw [pk_us]
      simp
    · rw [pk_un hi2, List.getElem?_append_left (by simp at hi; omega)]
      exact hf i (by simp at hi; omega)
  · refine T_iconst (v := 0) (pc := 12) d_Bytes_append_12 rfl ?_
    refine T_zret (pc := 13) d_Bytes_append_13 rfl (by decide) rfl (Nat.le_refl _) ?_
    rw [if_neg (fun q => q9 (nI_lt q hc))]
    exact ⟨rfl, rfl⟩
theorem By.obj {h : aH} {a cap : Nat} {l : List Int32} (hb : By h a cap l) : h a = some (.inr (1, [.ref (a + 1), .int (nI l.length)])) := by
  obtain ⟨f, q1, _⟩ := hb
  exact q1
/-- two rows are apart -/
theorem By.apart {h : aH} {a a2 cap cap2 : Nat} {l l2 : List Int32} (hb : By h a cap l) (hb2 : By h a2 cap2 l2) (hne : a2 ≠ a) : a2 ≠ a + 1 ∧ a2 + 1 ≠ a ∧ a2 + 1 ≠ a + 1 := by
  obtain ⟨f, q1, q2, _⟩ := hb
  obtain ⟨f2, r1, r2, _⟩ := hb2
  refine ⟨fun e => ?_, fun e => ?_, by omega⟩
  · rw [e, q2] at r1
    cases r1
  · rw [e, q1] at r2
    cases r2
/-- the four bytes of a word -/
def wby (w : Int32) : List Int32 := [(w.toUInt32 >>> (Int32.toUInt32 24 &&& Int32.toUInt32 31)).toInt32 &&& 255, (w.toUInt32 >>> (Int32.toUInt32 16 &&& Int32.toUInt32 31)).toInt32 &&& 255, (w.toUInt32 >>> (Int32.toUInt32 8 &&& Int32.toUInt32 31)).toInt32 &&& 255, w &&& 255]
set_option maxRecDepth 100000 in
set_option maxHeartbeats 4000000 in
theorem c_Bytes_appendWord {n a cap : Nat} {h : aH} {x : Int32} {l : List Int32} (hb : By h a cap l) (hc : cap < 2 ^ 31) (hr : l.length + 4 ≤ cap) : Con M_Bytes_appendWord 1 0 0 n [.ref a, .int x] h (fun r h' => r = none ∧ By h' a cap (l ++ wby x) ∧ ∀ q, q ≠ a → q ≠ a + 1 → h' q = h q) := by
  refine Con.of rfl (Nat.le_of_ble_eq_true rfl) ?_
  refine T_aload_n (pc := 0) d_Bytes_appendWord_0 rfl ?_
  refine T_iload_n (pc := 1) d_Bytes_appendWord_1 rfl ?_
  refine T_bipush (v := 24) (pc := 2) d_Bytes_appendWord_2 rfl ?_
  refine T_iushr (pc := 4) d_Bytes_appendWord_4 ?_
  refine T_sipush (v := 255) (pc := 5) d_Bytes_appendWord_5 rfl ?_
  refine T_iand (pc := 8) d_Bytes_appendWord_8 ?_
  refine T_ivV (pc := 9) d_Bytes_appendWord_9 sI_Bytes_19 (c_Bytes_append hb hc) (By.obj hb) rfl rfl ⟨(Nat.le_of_ble_eq_true rfl), (Nat.le_of_ble_eq_true rfl)⟩ ⟨(Nat.le_of_ble_eq_true rfl), (Nat.le_of_ble_eq_true rfl)⟩ (Nat.le_of_ble_eq_true rfl) (fun r1 h1 q1 => ?_)
  rw [if_pos (by omega)] at q1
  obtain ⟨rfl, hb1, o1⟩ := q1
  refine T_pop (pc := 12) d_Bytes_appendWord_12 rfl ?_
  refine T_aload_n (pc := 13) d_Bytes_appendWord_13 rfl ?_
  refine T_iload_n (pc := 14) d_Bytes_appendWord_14 rfl ?_
  refine T_bipush (v := 16) (pc := 15) d_Bytes_appendWord_15 rfl ?_
  refine T_iushr (pc := 17) d_Bytes_appendWord_17 ?_
  refine T_sipush (v := 255) (pc := 18) d_Bytes_appendWord_18 rfl ?_
  refine T_iand (pc := 21) d_Bytes_appendWord_21 ?_
  refine T_ivV (pc := 22) d_Bytes_appendWord_22 sI_Bytes_19 (c_Bytes_append hb1 hc) (By.obj hb1) rfl rfl ⟨(Nat.le_of_ble_eq_true rfl), (Nat.le_of_ble_eq_true rfl)⟩ ⟨(Nat.le_of_ble_eq_true rfl), (Nat.le_of_ble_eq_true rfl)⟩ (Nat.le_of_ble_eq_true rfl) (fun r2 h2 q2 => ?_)
  rw [if_pos (by simp; omega)] at q2
  obtain ⟨rfl, hb2, o2⟩ := q2
  refine T_pop (pc := 25) d_Bytes_appendWord_25 rfl ?_
  refine T_aload_n (pc := 26) d_Bytes_appendWord_26 rfl ?_
  refine T_iload_n (pc := 27) d_Bytes_appendWord_27 rfl ?_
  refine T_bipush (v := 8) (pc := 28) d_Bytes_appendWord_28 rfl ?_
  refine T_iushr (pc := 30) d_Bytes_appendWord_30 ?_
  refine T_sipush (v := 255) (pc := 31) d_Bytes_appendWord_31 rfl ?_
  refine T_iand (pc := 34) d_Bytes_appendWord_34 ?_
  refine T_ivV (pc := 35) d_Bytes_appendWord_35 sI_Bytes_19 (c_Bytes_append hb2 hc) (By.obj hb2) rfl rfl ⟨(Nat.le_of_ble_eq_true rfl), (Nat.le_of_ble_eq_true rfl)⟩ ⟨(Nat.le_of_ble_eq_true rfl), (Nat.le_of_ble_eq_true rfl)⟩ (Nat.le_of_ble_eq_true rfl) (fun r3 h3 q3 => ?_)
  rw [if_pos (by simp; omega)] at q3
  obtain ⟨rfl, hb3, o3⟩ := q3
  refine T_pop (pc := 38) d_Bytes_appendWord_38 rfl ?_
  refine T_aload_n (pc := 39) d_Bytes_appendWord_39 rfl ?_
  refine T_iload_n (pc := 40) d_Bytes_appendWord_40 rfl ?_
  refine T_sipush (v := 255) (pc := 41) d_Bytes_appendWord_41 rfl ?_
  refine T_iand (pc := 44) d_Bytes_appendWord_44 ?_
  refine T_ivV (pc := 45) d_Bytes_appendWord_45 sI_Bytes_19 (c_Bytes_append hb3 hc) (By.obj hb3) rfl rfl ⟨(Nat.le_of_ble_eq_true rfl), (Nat.le_of_ble_eq_true rfl)⟩ ⟨(Nat.le_of_ble_eq_true rfl), (Nat.le_of_ble_eq_true rfl)⟩ (Nat.le_of_ble_eq_true rfl) (fun r4 h4 q4 => ?_)
  rw [if_pos (by simp; omega)] at q4
  obtain ⟨rfl, hb4, o4⟩ := q4
  refine T_pop (pc := 48) d_Bytes_appendWord_48 rfl ?_
  refine T_vret (pc := 49) d_Bytes_appendWord_49 rfl rfl (Nat.le_refl _) ?_
  refine ⟨rfl, ?_, fun q h1 h2 => (o4 q h1 h2).trans ((o3 q h1 h2).trans ((o2 q h1 h2).trans (o1 q h1 h2)))⟩
  simpa [wby] using hb4
set_option maxRecDepth 100000 in
set_option maxHeartbeats 4000000 in
theorem c_Bytes_appendPart_loop {n a a2 cap cap2 e : Nat} {l2 : List Int32} {x3 x2 : Int32} {Q : aQ} (hc : cap < 2 ^ 31) (hc2 : cap2 < 2 ^ 31) (hne : a2 ≠ a) (he : e ≤ l2.length) : ∀ (k i : Nat) (h : aH) (l : List Int32), i + k = e → By h a cap l → By h a2 cap2 l2 → l.length + k ≤ cap → (∀ h', By h' a cap (l ++ (l2.drop i).take k) → (∀ q, q ≠ a → q ≠ a + 1 → h' q = h q) → Q none h') → Tri M_Bytes_appendPart (a_rm 1 0 0) (a_Z 0 0 Q) 19 [(5, .int (nI i)), (4, .int (nI e)), (0, .ref a), (1, .ref a2), (2, .int x2), (3, .int x3)] [] n h 0 0 := by
  intro k
  induction k with
  | zero =>
    intro i h l hik hb hb2 hr hQ
    have hle := hb2.le
    refine T_iload (pc := 19) d_Bytes_appendPart_19 rfl ?_
    refine T_iload (pc := 21) d_Bytes_appendPart_21 rfl ?_
    refine T_icmp_ge (tgt := 44) (pc := 23) d_Bytes_appendPart_23 (by decide) (fun q23 => ?_) (fun q23 => ?_)
    · refine T_vret (pc := 44) d_Bytes_appendPart_44 rfl rfl (Nat.le_refl _) ?_
      refine hQ h ?_ (fun q _ _ => rfl)
      simpa using hb
    · exact absurd (nI_le (by omega) (by omega)) q23
  | succ k ih =>
    intro i h l hik hb hb2 hr hQ
    have hle := hb2.le
    have n1 := hb.apart hb2 hne
    obtain ⟨f2, hB2, hA2, hl2, hf2⟩ := id hb2
    refine T_iload (pc := 19) d_Bytes_appendPart_19 rfl ?_
    refine T_iload (pc := 21) d_Bytes_appendPart_21 rfl ?_
    refine T_icmp_ge (tgt := 44) (pc := 23) d_Bytes_appendPart_23 (by decide) (fun q23 => ?_) (fun q23 => ?_)
    · exact absurd q23 (nI_ge (by omega) (by omega))
    · refine T_aload_n (pc := 26) d_Bytes_appendPart_26 rfl ?_
      refine T_aload_n (pc := 27) d_Bytes_appendPart_27 rfl ?_
      refine T_get (pc := 28) d_Bytes_appendPart_28 sF_Bytes_9_Bytes hB2 rfl ?_
      refine T_iload (pc := 31) d_Bytes_appendPart_31 rfl ?_
      refine T_iald (pc := 33) d_Bytes_appendPart_33 hA2 (vp_in_nI (by omega) hc2) ?_
      refine T_ivV (pc := 34) d_Bytes_appendPart_34 sI_Bytes_19 (c_Bytes_append hb hc) (By.obj hb) rfl rfl ⟨(Nat.le_of_ble_eq_true rfl), (Nat.le_of_ble_eq_true rfl)⟩ ⟨(Nat.le_of_ble_eq_true rfl), (Nat.le_of_ble_eq_true rfl)⟩ (Nat.le_of_ble_eq_true rfl) (fun r1 h1 q1 => ?_)
      rw [if_pos (by omega)] at q1
      obtain ⟨rfl, hb1, o1⟩ := q1
      refine T_pop (pc := 37) d_Bytes_appendPart_37 rfl ?_
      refine T_iinc (pc := 38) d_Bytes_appendPart_38 rfl (nI_1 i) (Nat.le_of_ble_eq_true rfl) rfl ?_
      refine T_goto (tgt := 19) (pc := 41) d_Bytes_appendPart_41 (by decide) ?_
      rw [nI_clamp (by omega)] at hb1
      have e1 : l2.drop i = f2 i :: l2.drop (i + 1) := by
        have hi2 : i < l2.length := by omega
        have e3 := hf2 i hi2
        rw [List.getElem?_eq_getElem hi2] at e3
        rw [List.drop_eq_getElem_cons hi2, Option.some.inj e3]
      exact ih (i + 1) h1 (l ++ [f2 i]) (by omega) hb1 (hb2.same (o1 a2 hne n1.1) (o1 (a2 + 1) n1.2.1 n1.2.2)) (by simp; omega) (fun h' g' o' => hQ h' (by rw [List.append_assoc] at g'; rw [e1, List.take_succ_cons]; exact g') (fun q h2 h3 => (o' q h2 h3).trans (o1 q h2 h3)))
