/-! OnceWire$WordFormat.write, Reader.skip, Format's constructors. -/
def encW : List Sf → List (List Int32) → List Int32
  | t :: ts, w :: us => (if t.2.2 then wby (nI w.length) else []) ++ (w.flatMap wby ++ encW ts us)
  | _, _ => []
theorem wbyl (w : List Int32) : (w.flatMap wby).length = 4 * w.length := by
  induction w with
  | nil => rfl
  | cons x t ih =>
    rw [List.flatMap_cons, List.length_append, ih, wby_len, List.length_cons]
    omega
set_option maxRecDepth 100000 in
set_option maxHeartbeats 4000000 in
theorem c_WordFormat_write_in {n fm v sa a cap : Nat} {ns : List Sf} {vs : List (List Int32)} (hc : cap < 2 ^ 31) (d1 : sa + 4 < v) (d2 : v + 2 < a) (d3 : fm ≠ a) (d4 : fm ≠ a + 1) {i : Nat} {t : Sf} {w : List Int32} {Z : aZ} (ht : ns[i]? = some t) (hw : vs[i]? = some w) : ∀ (us : List Int32) (j : Nat) (h : aH) (l : List Int32), w.drop j = us → j ≤ w.length → Sc h sa ns → Va h v sa ns vs → By h a cap l → l.length + 4 * us.length ≤ cap → (∀ h', By h' a cap (l ++ us.flatMap wby) → (∀ q, q ≠ a → q ≠ a + 1 → h' q = h q) → Tri M_WordFormat_write (a_rm 3 0 0) Z 64 [(5, .int (nI w.length)), (4, .int (nI w.length)), (3, .int (nI i)), (0, .ref fm), (1, .ref v), (2, .ref a)] [] n h' 0 0) → Tri M_WordFormat_write (a_rm 3 0 0) Z 40 [(5, .int (nI j)), (4, .int (nI w.length)), (3, .int (nI i)), (0, .ref fm), (1, .ref v), (2, .ref a)] [] n h 0 0 := by
  intro us
  induction us with
  | nil =>
    intro j h l hus hj hs hv hb hr hK
    have hw4 := hv.le4 ht hw
    have hj2 : j = w.length := by
      have := List.drop_eq_nil_iff.mp hus
      omega
    subst hj2
    refine T_iload (pc := 40) d_WordFormat_write_40 rfl ?_
    refine T_iload (pc := 42) d_WordFormat_write_42 rfl ?_
    refine T_icmp_ge (tgt := 64) (pc := 44) d_WordFormat_write_44 (by decide) (fun q44 => ?_) (fun q44 => ?_)
    · exact hK h (by simpa using hb) (fun _ _ _ => rfl)
    · exact absurd (nI_le (Nat.le_refl _) (by omega)) q44
  | cons x us ih =>
    intro j h l hus hj hs hv hb hr hK
    have hw4 := hv.le4 ht hw
    have hj2 : j < w.length := by
      have := congrArg List.length hus
      simp at this
      omega
    have hx : w[j]? = some x := by
      have := congrArg (fun l => l[0]?) hus
      simpa using this
    have hus2 : w.drop (j + 1) = us := by
      rw [← List.drop_drop, hus]
      rfl
    simp only [List.length_cons] at hr
    refine T_iload (pc := 40) d_WordFormat_write_40 rfl ?_
    refine T_iload (pc := 42) d_WordFormat_write_42 rfl ?_
    refine T_icmp_ge (tgt := 64) (pc := 44) d_WordFormat_write_44 (by decide) (fun q44 => ?_) (fun q44 => ?_)
    · exact absurd q44 (nI_ge hj2 (by omega))
    · refine T_aload_n (pc := 47) d_WordFormat_write_47 rfl ?_
      refine T_aload_n (pc := 48) d_WordFormat_write_48 rfl ?_
      refine T_iload_n (pc := 49) d_WordFormat_write_49 rfl ?_
      refine T_iload (pc := 50) d_WordFormat_write_50 rfl ?_
      refine T_ivV (pc := 52) d_WordFormat_write_52 sI_WordFormat_35 (c_Value_intOf hs hv ht hw hx) hv.obj rfl rfl ⟨(Nat.le_of_ble_eq_true rfl), (Nat.le_of_ble_eq_true rfl)⟩ ⟨(Nat.le_of_ble_eq_true rfl), (Nat.le_of_ble_eq_true rfl)⟩ (Nat.le_of_ble_eq_true rfl) (fun r1 h1 q1 => ?_)
      obtain ⟨rfl, e1⟩ := q1
      rw [e1]
      refine T_ivV (pc := 55) d_WordFormat_write_55 sI_WordFormat_29 (c_Bytes_appendWord hb hc (by omega)) hb.obj rfl rfl ⟨(Nat.le_of_ble_eq_true rfl), (Nat.le_of_ble_eq_true rfl)⟩ ⟨(Nat.le_of_ble_eq_true rfl), (Nat.le_of_ble_eq_true rfl)⟩ (Nat.le_of_ble_eq_true rfl) (fun r2 h2 q2 => ?_)
      obtain ⟨rfl, hb2, o2⟩ := q2
      refine T_iinc (pc := 58) d_WordFormat_write_58 rfl (nI_1 j) (Nat.le_of_ble_eq_true rfl) rfl ?_
      refine T_goto (tgt := 40) (pc := 61) d_WordFormat_write_61 (by decide) ?_
      refine ih (j + 1) h2 (l ++ wby x) hus2 (by omega) (hs.same (fun q q1 q3 => o2 q (by omega) (by omega))) (hv.same (fun q q1 q3 => o2 q (by omega) (by omega))) hb2 (by rw [List.length_append, wby_len]; omega) (fun h' g' o' => hK h' ?_ (fun q z1 z2 => (o' q z1 z2).trans (o2 q z1 z2)))
      rw [List.append_assoc] at g'
      exact g'
set_option maxRecDepth 100000 in
set_option maxHeartbeats 4000000 in
theorem c_WordFormat_write_out {n fm v sa a cap : Nat} {ns : List Sf} {vs : List (List Int32)} (hc : cap < 2 ^ 31) (d1 : sa + 4 < v) (d2 : v + 2 < a) (d3 : fm ≠ a) (d4 : fm ≠ a + 1) {Q : aQ} : ∀ (ts : List Sf) (us : List (List Int32)) (i : Nat) (h : aH) (l : List Int32), ns.drop i = ts → vs.drop i = us → i ≤ ns.length → h fm = some (.inr (9, [.ref sa])) → Sc h sa ns → Va h v sa ns vs → By h a cap l → l.length + (encW ts us).length ≤ cap → (∀ h', By h' a cap (l ++ encW ts us) → (∀ q, q ≠ a → q ≠ a + 1 → h' q = h q) → Q none h') → Tri M_WordFormat_write (a_rm 3 0 0) (a_Z 0 0 Q) 2 [(3, .int (nI i)), (0, .ref fm), (1, .ref v), (2, .ref a)] [] n h 0 0 := by
  intro ts
  induction ts with
  | nil =>
    intro us i h l hts hus hi hF hs hv hb hr hQ
    have hle := hs.le
    have hi2 : ns.length ≤ i := List.drop_eq_nil_iff.mp hts
    refine T_iload_n (pc := 2) d_WordFormat_write_2 rfl ?_
    refine T_aload_n (pc := 3) d_WordFormat_write_3 rfl ?_
    refine T_get (pc := 4) d_WordFormat_write_4 sF_WordFormat_7_WordFormat hF rfl ?_
    refine T_get (pc := 7) d_WordFormat_write_7 sF_WordFormat_13_Schema hs.obj rfl ?_
    refine T_icmp_ge (tgt := 70) (pc := 10) d_WordFormat_write_10 (by decide) (fun q10 => ?_) (fun q10 => ?_)
    · refine T_vret (pc := 70) d_WordFormat_write_70 rfl rfl (Nat.le_refl _) ?_
      exact hQ h (by simpa [encW] using hb) (fun _ _ _ => rfl)
    · exact absurd (nI_le hi2 (by omega)) q10
  | cons t ts ih =>
    intro us i h l hts hus hi hF hs hv hb hr hQ
    have hle := hs.le
    have hvl : vs.length = ns.length := hv.1
    have hi2 : i < ns.length := by
      have := congrArg List.length hts
      simp at this
      omega
    have ht : ns[i]? = some t := by
      have := congrArg (fun l => l[0]?) hts
      simpa using this
    obtain ⟨w, hw⟩ : ∃ w, vs[i]? = some w := ⟨vs[i], List.getElem?_eq_getElem (by omega)⟩
    have hts2 : ns.drop (i + 1) = ts := by
      rw [← List.drop_drop, hts]
      rfl
    have hus2 : us = w :: vs.drop (i + 1) := by
      rw [← hus, List.drop_eq_getElem_cons (by omega)]
      rw [List.getElem?_eq_getElem (by omega)] at hw
      rw [Option.some.inj hw]
    rw [hus2] at hr hQ
    simp only [encW, List.length_append, wbyl] at hr
    refine T_iload_n (pc := 2) d_WordFormat_write_2 rfl ?_
    refine T_aload_n (pc := 3) d_WordFormat_write_3 rfl ?_
    refine T_get (pc := 4) d_WordFormat_write_4 sF_WordFormat_7_WordFormat hF rfl ?_
    refine T_get (pc := 7) d_WordFormat_write_7 sF_WordFormat_13_Schema hs.obj rfl ?_
    refine T_icmp_ge (tgt := 70) (pc := 10) d_WordFormat_write_10 (by decide) (fun q10 => ?_) (fun q10 => ?_)
    · exact absurd q10 (nI_ge hi2 (by omega))
    · refine T_aload_n (pc := 13) d_WordFormat_write_13 rfl ?_
      refine T_iload_n (pc := 14) d_WordFormat_write_14 rfl ?_
      refine T_ivV (pc := 15) d_WordFormat_write_15 sI_WordFormat_19 (c_Value_countOf hs hv ht hw) hv.obj rfl rfl ⟨(Nat.le_of_ble_eq_true rfl), (Nat.le_of_ble_eq_true rfl)⟩ ⟨(Nat.le_of_ble_eq_true rfl), (Nat.le_of_ble_eq_true rfl)⟩ (Nat.le_of_ble_eq_true rfl) (fun r1 h1 q1 => ?_)
      obtain ⟨rfl, e1⟩ := q1
      rw [e1]
      refine T_istore (pc := 18) d_WordFormat_write_18 (Nat.le_of_ble_eq_true rfl) rfl ?_
      refine T_aload_n (pc := 20) d_WordFormat_write_20 rfl ?_
      refine T_get (pc := 21) d_WordFormat_write_21 sF_WordFormat_7_WordFormat hF rfl ?_
      refine T_iload_n (pc := 24) d_WordFormat_write_24 rfl ?_
      refine T_ivV (pc := 25) d_WordFormat_write_25 sI_WordFormat_25 (c_Schema_isRepeated hs ht) hs.obj rfl rfl ⟨(Nat.le_of_ble_eq_true rfl), (Nat.le_of_ble_eq_true rfl)⟩ ⟨(Nat.le_of_ble_eq_true rfl), (Nat.le_of_ble_eq_true rfl)⟩ (Nat.le_of_ble_eq_true rfl) (fun r2 h2 q2 => ?_)
      obtain ⟨rfl, e2⟩ := q2
      rw [e2]
      refine T_if_eq (tgt := 37) (pc := 28) d_WordFormat_write_28 (by decide) (fun q28 => ?_) (fun q28 => ?_)
      · refine T_iconst (v := 0) (pc := 37) d_WordFormat_write_37 rfl ?_
        refine T_istore (pc := 38) d_WordFormat_write_38 (Nat.le_of_ble_eq_true rfl) rfl ?_
        have hb0 : t.2.2 = false := by cases hb0 : t.2.2 <;> simp_all [bI]
        rw [hb0] at hr
        simp only [Bool.false_eq_true, if_false, List.length_nil] at hr
        refine c_WordFormat_write_in hc d1 d2 d3 d4 ht hw w 0 h l (List.drop_zero) (Nat.zero_le _) hs hv hb (by omega) (fun h4 hb4 o4 => ?_)
        have o5 : ∀ q, q ≠ a → q ≠ a + 1 → h4 q = h q := fun q z1 z2 => (o4 q z1 z2)
        refine T_iinc (pc := 64) d_WordFormat_write_64 rfl (nI_1 i) (Nat.le_of_ble_eq_true rfl) rfl ?_
        refine T_goto (tgt := 2) (pc := 67) d_WordFormat_write_67 (by decide) (T_loc [0, 3, 4, 5] rfl ?_)
        refine ih _ (i + 1) h4 _ hts2 rfl (by omega) ((o5 fm d3 d4).trans hF) (hs.same (fun q q1 q3 => o5 q (by omega) (by omega))) (hv.same (fun q q1 q3 => o5 q (by omega) (by omega))) hb4 ?_ (fun h' g' o' => hQ h' ?_ (fun q z1 z2 => (o' q z1 z2).trans (o5 q z1 z2)))
        · simp only [List.length_append, wbyl]
          omega
        · rw [encW, hb0]
          simpa [List.append_assoc] using g'
      · refine T_aload_n (pc := 31) d_WordFormat_write_31 rfl ?_
        refine T_iload (pc := 32) d_WordFormat_write_32 rfl ?_
        have hb0 : t.2.2 = true := by cases hb0 : t.2.2 <;> simp_all [bI]
        rw [hb0] at hr
        have hr2 : l.length + 4 ≤ cap := by simp only [if_true, wby_len] at hr; omega
        refine T_ivV (pc := 34) d_WordFormat_write_34 sI_WordFormat_29 (c_Bytes_appendWord hb hc hr2) hb.obj rfl rfl ⟨(Nat.le_of_ble_eq_true rfl), (Nat.le_of_ble_eq_true rfl)⟩ ⟨(Nat.le_of_ble_eq_true rfl), (Nat.le_of_ble_eq_true rfl)⟩ (Nat.le_of_ble_eq_true rfl) (fun r3 h3 q3 => ?_)
        obtain ⟨rfl, hb3, o3⟩ := q3
        refine T_iconst (v := 0) (pc := 37) d_WordFormat_write_37 rfl ?_
        refine T_istore (pc := 38) d_WordFormat_write_38 (Nat.le_of_ble_eq_true rfl) rfl ?_
        simp only [if_true, wby_len] at hr
        have hs3 := hs.same (h' := h3) (fun q q1 q3 => o3 q (by omega) (by omega))
        have hv3 := hv.same (h' := h3) (fun q q1 q3 => o3 q (by omega) (by omega))
        refine c_WordFormat_write_in hc d1 d2 d3 d4 ht hw w 0 h3 (l ++ wby (nI w.length)) (List.drop_zero) (Nat.zero_le _) hs3 hv3 hb3 (by rw [List.length_append, wby_len]; omega) (fun h4 hb4 o4 => ?_)
        have o5 : ∀ q, q ≠ a → q ≠ a + 1 → h4 q = h q := fun q z1 z2 => ((o4 q z1 z2).trans (o3 q z1 z2))
        refine T_iinc (pc := 64) d_WordFormat_write_64 rfl (nI_1 i) (Nat.le_of_ble_eq_true rfl) rfl ?_
        refine T_goto (tgt := 2) (pc := 67) d_WordFormat_write_67 (by decide) (T_loc [0, 3, 4, 5] rfl ?_)
        refine ih _ (i + 1) h4 _ hts2 rfl (by omega) ((o5 fm d3 d4).trans hF) (hs.same (fun q q1 q3 => o5 q (by omega) (by omega))) (hv.same (fun q q1 q3 => o5 q (by omega) (by omega))) hb4 ?_ (fun h' g' o' => hQ h' ?_ (fun q z1 z2 => (o' q z1 z2).trans (o5 q z1 z2)))
        · simp only [List.length_append, wby_len, wbyl]
          omega
        · rw [encW, hb0]
          simpa [List.append_assoc] using g'
set_option maxRecDepth 100000 in
set_option maxHeartbeats 4000000 in
theorem c_WordFormat_write {n fm v sa a cap : Nat} {ns : List Sf} {vs : List (List Int32)} (hc : cap < 2 ^ 31) (d1 : sa + 4 < v) (d2 : v + 2 < a) (d3 : fm ≠ a) (d4 : fm ≠ a + 1) {h : aH} {l : List Int32} (hF : h fm = some (.inr (9, [.ref sa]))) (hs : Sc h sa ns) (hv : Va h v sa ns vs) (hb : By h a cap l) (hr : l.length + (encW ns vs).length ≤ cap) : Con M_WordFormat_write 3 0 0 n [.ref fm, .ref v, .ref a] h (fun r h' => r = none ∧ By h' a cap (l ++ encW ns vs) ∧ ∀ q, q ≠ a → q ≠ a + 1 → h' q = h q) := by
  refine Con.of rfl (Nat.le_of_ble_eq_true rfl) ?_
  refine T_iconst (v := 0) (pc := 0) d_WordFormat_write_0 rfl ?_
  refine T_istore_n (pc := 1) d_WordFormat_write_1 rfl (Nat.le_of_ble_eq_true rfl) rfl ?_
  exact c_WordFormat_write_out hc d1 d2 d3 d4 ns vs 0 h l (List.drop_zero) (List.drop_zero) (Nat.zero_le _) hF hs hv hb hr (fun h' g' o' => ⟨rfl, g', o'⟩)
set_option maxRecDepth 100000 in
set_option maxHeartbeats 4000000 in
theorem c_Reader_skip {n a src cap p : Nat} {h : aH} {f : Bool} {l : List Int32} {v : Int64} (hR : Rd h a src p f) (hb : By h src cap l) (hc : cap < 2 ^ 30) (hp : p ≤ l.length) : Con M_Reader_skip 0 0 0 n [.ref a, .long v] h (fun r h' => r = none ∧ (∀ q, q ≠ a → h' q = h q) ∧ if v < 0 ∨ lN (l.length - p) < v then Rd h' a src p true else ∃ m, v = lN m ∧ p + m ≤ l.length ∧ Rd h' a src (p + m) f) := by
  unfold Rd at *
  obtain ⟨fc, hB, hA, hl, hf⟩ := id hb
  have n1 : src ≠ a := fun e => by
    rw [e, hR] at hB
    cases hB
  have ee : (nI l.length - nI p).toInt64 = lN (l.length - p) := by rw [pk_sub hp, nI_l (by omega)]
  refine Con.of rfl (Nat.le_of_ble_eq_true rfl) ?_
  refine T_lload_n (pc := 0) d_Reader_skip_0 rfl ?_
  refine T_lconst (v := 0) (pc := 1) d_Reader_skip_1 rfl ?_
  refine T_lcmp (pc := 2) d_Reader_skip_2 ?_
  refine T_if_lt (tgt := 24) (pc := 3) d_Reader_skip_3 (by decide) (fun q3 => ?_) (fun q3 => ?_)
  · refine T_aload_n (pc := 24) d_Reader_skip_24 rfl ?_
    refine T_iconst (v := 1) (pc := 25) d_Reader_skip_25 rfl ?_
    refine T_put (pc := 26) d_Reader_skip_26 sF_Reader_17_Reader hR (Nat.le_of_ble_eq_true rfl) (a_fit_z (by decide)) (T_up (fun h26x1 g26x1 o26x1 => ?_))
    have hB_26x1 := (o26x1 src n1).trans hB
    refine T_goto (tgt := 43) (pc := 29) d_Reader_skip_29 (by decide) ?_
    refine T_vret (pc := 43) d_Reader_skip_43 rfl rfl (Nat.le_refl _) ?_
    refine ⟨rfl, o26x1, ?_⟩
    first
      | (rw [if_pos (Or.inl ((lg_cmp_lt v 0).mp q3))]; exact g26x1)
      | (rw [if_pos (Or.inr (Int64.not_le.mp (fun q => q21 ((lg_cmp_le v _).mpr (by rw [ee]; exact q)))))]; exact g26x1)
      | (have h1 : ¬ v < 0 := fun q => q3 ((lg_cmp_lt v 0).mpr q)
         have h2 : v ≤ lN (l.length - p) := by rw [← ee]; exact (lg_cmp_le v _).mp q21
         rw [if_neg (fun q => q.elim h1 (fun q => absurd h2 (Int64.not_le.mpr q)))]
         obtain ⟨m, hm, rfl⟩ := pk_lOf h1
         have h3 := (pk_lLE hm (by omega)).mp h2
         refine ⟨m, rfl, by omega, ?_⟩
         show _ = _
         rw [g26x1, lN_i, nI_add]
         rfl)
  · refine T_lload_n (pc := 6) d_Reader_skip_6 rfl ?_
    refine T_aload_n (pc := 7) d_Reader_skip_7 rfl ?_
    refine T_get (pc := 8) d_Reader_skip_8 sF_Reader_7_Reader hR rfl ?_
    refine T_get (pc := 11) d_Reader_skip_11 sF_Reader_27_Bytes hB rfl ?_
    refine T_aload_n (pc := 14) d_Reader_skip_14 rfl ?_
    refine T_get (pc := 15) d_Reader_skip_15 sF_Reader_13_Reader hR rfl ?_
    refine T_isub (pc := 18) d_Reader_skip_18 ?_
    refine T_i2l (pc := 19) d_Reader_skip_19 ?_
    refine T_lcmp (pc := 20) d_Reader_skip_20 ?_
    refine T_if_le (tgt := 32) (pc := 21) d_Reader_skip_21 (by decide) (fun q21 => ?_) (fun q21 => ?_)
    · refine T_aload_n (pc := 32) d_Reader_skip_32 rfl ?_
      refine T_dup (pc := 33) d_Reader_skip_33 rfl ?_
      refine T_get (pc := 34) d_Reader_skip_34 sF_Reader_13_Reader hR rfl ?_
      refine T_lload_n (pc := 37) d_Reader_skip_37 rfl ?_
      refine T_l2i (pc := 38) d_Reader_skip_38 ?_
      refine T_iadd (pc := 39) d_Reader_skip_39 ?_
      refine T_put (pc := 40) d_Reader_skip_40 sF_Reader_13_Reader hR (Nat.le_of_ble_eq_true rfl) (a_fit_i _) (T_up (fun h40x2 g40x2 o40x2 => ?_))
      have hB_40x2 := (o40x2 src n1).trans hB
      refine T_vret (pc := 43) d_Reader_skip_43 rfl rfl (Nat.le_refl _) ?_
      refine ⟨rfl, o40x2, ?_⟩
      first
        | (rw [if_pos (Or.inl ((lg_cmp_lt v 0).mp q3))]; exact g40x2)
        | (rw [if_pos (Or.inr (Int64.not_le.mp (fun q => q21 ((lg_cmp_le v _).mpr (by rw [ee]; exact q)))))]; exact g40x2)
        | (have h1 : ¬ v < 0 := fun q => q3 ((lg_cmp_lt v 0).mpr q)
           have h2 : v ≤ lN (l.length - p) := by rw [← ee]; exact (lg_cmp_le v _).mp q21
           rw [if_neg (fun q => q.elim h1 (fun q => absurd h2 (Int64.not_le.mpr q)))]
           obtain ⟨m, hm, rfl⟩ := pk_lOf h1
           have h3 := (pk_lLE hm (by omega)).mp h2
           refine ⟨m, rfl, by omega, ?_⟩
           show _ = _
           rw [g40x2, lN_i, nI_add]
           rfl)
    · refine T_aload_n (pc := 24) d_Reader_skip_24 rfl ?_
      refine T_iconst (v := 1) (pc := 25) d_Reader_skip_25 rfl ?_
      refine T_put (pc := 26) d_Reader_skip_26 sF_Reader_17_Reader hR (Nat.le_of_ble_eq_true rfl) (a_fit_z (by decide)) (T_up (fun h26x3 g26x3 o26x3 => ?_))
      have hB_26x3 := (o26x3 src n1).trans hB
      refine T_goto (tgt := 43) (pc := 29) d_Reader_skip_29 (by decide) ?_
      refine T_vret (pc := 43) d_Reader_skip_43 rfl rfl (Nat.le_refl _) ?_
      refine ⟨rfl, o26x3, ?_⟩
      first
        | (rw [if_pos (Or.inl ((lg_cmp_lt v 0).mp q3))]; exact g26x3)
        | (rw [if_pos (Or.inr (Int64.not_le.mp (fun q => q21 ((lg_cmp_le v _).mpr (by rw [ee]; exact q)))))]; exact g26x3)
        | (have h1 : ¬ v < 0 := fun q => q3 ((lg_cmp_lt v 0).mpr q)
           have h2 : v ≤ lN (l.length - p) := by rw [← ee]; exact (lg_cmp_le v _).mp q21
           rw [if_neg (fun q => q.elim h1 (fun q => absurd h2 (Int64.not_le.mpr q)))]
           obtain ⟨m, hm, rfl⟩ := pk_lOf h1
           have h3 := (pk_lLE hm (by omega)).mp h2
           refine ⟨m, rfl, by omega, ?_⟩
           show _ = _
           rw [g26x3, lN_i, nI_add]
           rfl)
