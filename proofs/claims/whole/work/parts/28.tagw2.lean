/-! OnceWire$TaggedFormat.write. -/
def encT1 (t : Sf) (x : Int32) : List Int32 := if x ≠ 0 ∨ t.2.2 = true then vi 4 (keyN t) ++ wInt t.2.1 x else []
def encT : List Sf → List (List Int32) → List Int32
  | t :: ts, w :: us => w.flatMap (encT1 t) ++ encT ts us
  | _, _ => []
theorem keyN_lt {t : Sf} (h : t.1 ≤ 30) : keyN t < 256 := by
  unfold keyN
  split <;> omega
set_option maxRecDepth 100000 in
set_option maxHeartbeats 4000000 in
theorem c_TaggedFormat_write_in {n fm v sa a cap : Nat} {ns : List Sf} {vs : List (List Int32)} (hc : cap < 2 ^ 31) (d1 : sa + 4 < v) (d2 : v + 2 < a) (d3 : fm ≠ a) (d4 : fm ≠ a + 1) {i : Nat} {t : Sf} {w : List Int32} {Z : aZ} (ht : ns[i]? = some t) (hw : vs[i]? = some w) : ∀ (us : List Int32) (j : Nat) (h : aH) (l : List Int32), w.drop j = us → j ≤ w.length → h fm = some (.inr (7, [.ref sa])) → Sc h sa ns → Va h v sa ns vs → By h a cap l → l.length + (us.flatMap (encT1 t)).length ≤ cap → (∀ h', By h' a cap (l ++ us.flatMap (encT1 t)) → (∀ q, q ≠ a → q ≠ a + 1 → h' q = h q) → Tri M_TaggedFormat_write (a_rm 3 0 0) Z 88 [(5, .int (nI w.length)), (4, .int (nI w.length)), (3, .int (nI i)), (0, .ref fm), (1, .ref v), (2, .ref a)] [] n h' 0 0) → Tri M_TaggedFormat_write (a_rm 3 0 0) Z 23 [(5, .int (nI j)), (4, .int (nI w.length)), (3, .int (nI i)), (0, .ref fm), (1, .ref v), (2, .ref a)] [] n h 0 0 := by
  intro us
  induction us with
  | nil =>
    intro j h l hus hj hF hs hv hb hr hK
    have hw4 := hv.le4 ht hw
    have hj2 : j = w.length := by
      have := List.drop_eq_nil_iff.mp hus
      omega
    subst hj2
    refine T_iload (pc := 23) d_TaggedFormat_write_23 rfl ?_
    refine T_iload (pc := 25) d_TaggedFormat_write_25 rfl ?_
    refine T_icmp_ge (tgt := 88) (pc := 27) d_TaggedFormat_write_27 (by decide) (fun q27 => ?_) (fun q27 => ?_)
    · exact hK h (by simpa using hb) (fun _ _ _ => rfl)
    · exact absurd (nI_le (Nat.le_refl _) (by omega)) q27
  | cons x us ih =>
    intro j h l hus hj hF hs hv hb hr hK
    have hw4 := hv.le4 ht hw
    have hrg := hs.rng ht
    have hkey := keyN_lt hrg.2.1
    have hj2 : j < w.length := by
      have := congrArg List.length hus
      simp at this
      omega
    have hx : w[j]? = some x := by
      have := congrArg (fun l => l[0]?) hus
      simpa using this
    have hus2 : w.drop (j + 1) = us := by
      rw [← List.drop_drop, hus]
      rfl
    rw [List.flatMap_cons] at hr hK
    rw [List.length_append] at hr
    refine T_iload (pc := 23) d_TaggedFormat_write_23 rfl ?_
    refine T_iload (pc := 25) d_TaggedFormat_write_25 rfl ?_
    refine T_icmp_ge (tgt := 88) (pc := 27) d_TaggedFormat_write_27 (by decide) (fun q27 => ?_) (fun q27 => ?_)
    · exact absurd q27 (nI_ge hj2 (by omega))
    · refine T_aload_n (pc := 30) d_TaggedFormat_write_30 rfl ?_
      refine T_iload_n (pc := 31) d_TaggedFormat_write_31 rfl ?_
      refine T_iload (pc := 32) d_TaggedFormat_write_32 rfl ?_
      refine T_ivV (pc := 34) d_TaggedFormat_write_34 sI_TaggedFormat_27 (c_Value_intOf hs hv ht hw hx) hv.obj rfl rfl ⟨(Nat.le_of_ble_eq_true rfl), (Nat.le_of_ble_eq_true rfl)⟩ ⟨(Nat.le_of_ble_eq_true rfl), (Nat.le_of_ble_eq_true rfl)⟩ (Nat.le_of_ble_eq_true rfl) (fun r1 h1 q1 => ?_)
      obtain ⟨rfl, e1⟩ := q1
      rw [e1]
      refine T_istore (pc := 37) d_TaggedFormat_write_37 (Nat.le_of_ble_eq_true rfl) rfl ?_
      refine T_iload (pc := 39) d_TaggedFormat_write_39 rfl ?_
      refine T_if_ne (tgt := 55) (pc := 41) d_TaggedFormat_write_41 (by decide) (fun q41 => ?_) (fun q41 => ?_)
      · have hon : x ≠ 0 ∨ t.2.2 = true := Or.inl q41
        have he : encT1 t x = vi 4 (keyN t) ++ wInt t.2.1 x := if_pos hon
        rw [he] at hr hK
        rw [List.length_append] at hr
        refine T_aload_n (pc := 55) d_TaggedFormat_write_55 rfl ?_
        refine T_get (pc := 56) d_TaggedFormat_write_56 sF_TaggedFormat_9_TaggedFormat hF rfl ?_
        refine T_iload_n (pc := 59) d_TaggedFormat_write_59 rfl ?_
        refine T_ivV (pc := 60) d_TaggedFormat_write_60 sI_TaggedFormat_35 (c_Schema_keyOf hs ht) hs.obj rfl rfl ⟨(Nat.le_of_ble_eq_true rfl), (Nat.le_of_ble_eq_true rfl)⟩ ⟨(Nat.le_of_ble_eq_true rfl), (Nat.le_of_ble_eq_true rfl)⟩ (Nat.le_of_ble_eq_true rfl) (fun r3 h3 q3 => ?_)
        obtain ⟨rfl, e3⟩ := q3
        rw [e3]
        refine T_i2l (pc := 63) d_TaggedFormat_write_63 ?_
        rw [nI_l (by omega)]
        refine T_aload_n (pc := 64) d_TaggedFormat_write_64 rfl ?_
        refine T_ivS (pc := 65) d_TaggedFormat_write_65 sI_TaggedFormat_38 (c_TaggedFormat_writeVarint (m := keyN t) hc (by omega) hb (by omega)) rfl rfl ⟨(Nat.le_of_ble_eq_true rfl), (Nat.le_of_ble_eq_true rfl)⟩ ⟨(Nat.le_of_ble_eq_true rfl), (Nat.le_of_ble_eq_true rfl)⟩ (Nat.le_of_ble_eq_true rfl) (fun r4 h4 q4 => ?_)
        obtain ⟨rfl, hb4, o4⟩ := q4
        have hs4 := hs.same (h' := h4) (fun q z1 z2 => o4 q (by omega) (by omega))
        have hF4 := (o4 fm d3 d4).trans hF
        refine T_aload_n (pc := 68) d_TaggedFormat_write_68 rfl ?_
        refine T_get (pc := 69) d_TaggedFormat_write_69 sF_TaggedFormat_9_TaggedFormat hF4 rfl ?_
        refine T_iload_n (pc := 72) d_TaggedFormat_write_72 rfl ?_
        refine T_ivV (pc := 73) d_TaggedFormat_write_73 sI_TaggedFormat_42 (c_Schema_kindOf hs4 ht) hs4.obj rfl rfl ⟨(Nat.le_of_ble_eq_true rfl), (Nat.le_of_ble_eq_true rfl)⟩ ⟨(Nat.le_of_ble_eq_true rfl), (Nat.le_of_ble_eq_true rfl)⟩ (Nat.le_of_ble_eq_true rfl) (fun r5 h5 q5 => ?_)
        obtain ⟨rfl, e5⟩ := q5
        rw [e5]
        refine T_iload (pc := 76) d_TaggedFormat_write_76 rfl ?_
        refine T_aload_n (pc := 78) d_TaggedFormat_write_78 rfl ?_
        refine T_ivS (pc := 79) d_TaggedFormat_write_79 sI_TaggedFormat_45 (c_TaggedFormat_writeInt hc hrg.2.2 hb4 (by rw [List.length_append]; omega)) rfl rfl ⟨(Nat.le_of_ble_eq_true rfl), (Nat.le_of_ble_eq_true rfl)⟩ ⟨(Nat.le_of_ble_eq_true rfl), (Nat.le_of_ble_eq_true rfl)⟩ (Nat.le_of_ble_eq_true rfl) (fun r6 h6 q6 => ?_)
        obtain ⟨rfl, hb6, o6⟩ := q6
        have o7 : ∀ q, q ≠ a → q ≠ a + 1 → h6 q = h q := fun q z1 z2 => (o6 q z1 z2).trans (o4 q z1 z2)
        refine T_iinc (pc := 82) d_TaggedFormat_write_82 rfl (nI_1 j) (Nat.le_of_ble_eq_true rfl) rfl ?_
        refine T_goto (tgt := 23) (pc := 85) d_TaggedFormat_write_85 (by decide) (T_loc [0, 2, 3, 4, 5, 6] rfl ?_)
        rw [List.append_assoc] at hb6
        refine ih (j + 1) h6 _ hus2 (by omega) ((o7 fm d3 d4).trans hF) (hs.same (fun q z1 z2 => o7 q (by omega) (by omega))) (hv.same (fun q z1 z2 => o7 q (by omega) (by omega))) hb6 (by simp only [List.length_append]; omega) (fun h' g' o' => hK h' (by rw [← List.append_assoc]; exact g') (fun q z1 z2 => (o' q z1 z2).trans (o7 q z1 z2)))
      · refine T_aload_n (pc := 44) d_TaggedFormat_write_44 rfl ?_
        refine T_get (pc := 45) d_TaggedFormat_write_45 sF_TaggedFormat_9_TaggedFormat hF rfl ?_
        refine T_iload_n (pc := 48) d_TaggedFormat_write_48 rfl ?_
        refine T_ivV (pc := 49) d_TaggedFormat_write_49 sI_TaggedFormat_31 (c_Schema_isRepeated hs ht) hs.obj rfl rfl ⟨(Nat.le_of_ble_eq_true rfl), (Nat.le_of_ble_eq_true rfl)⟩ ⟨(Nat.le_of_ble_eq_true rfl), (Nat.le_of_ble_eq_true rfl)⟩ (Nat.le_of_ble_eq_true rfl) (fun r2 h2 q2 => ?_)
        obtain ⟨rfl, e2⟩ := q2
        rw [e2]
        refine T_if_eq (tgt := 82) (pc := 52) d_TaggedFormat_write_52 (by decide) (fun q52 => ?_) (fun q52 => ?_)
        · refine T_iinc (pc := 82) d_TaggedFormat_write_82 rfl (nI_1 j) (Nat.le_of_ble_eq_true rfl) rfl ?_
          refine T_goto (tgt := 23) (pc := 85) d_TaggedFormat_write_85 (by decide) (T_loc [0, 2, 3, 4, 5, 6] rfl ?_)
          have hoff : ¬ (x ≠ 0 ∨ t.2.2 = true) := by
            rintro (q | q)
            · exact q q41
            · rw [q] at q52
              exact absurd q52 (by decide)
          have he : encT1 t x = [] := if_neg hoff
          rw [he] at hr hK
          exact ih (j + 1) h l hus2 (by omega) hF hs hv hb (by simpa using hr) (by simpa using hK)
        · have hon : x ≠ 0 ∨ t.2.2 = true := Or.inr (by cases hbb : t.2.2 <;> simp_all [bI])
          have he : encT1 t x = vi 4 (keyN t) ++ wInt t.2.1 x := if_pos hon
          rw [he] at hr hK
          rw [List.length_append] at hr
          refine T_aload_n (pc := 55) d_TaggedFormat_write_55 rfl ?_
          refine T_get (pc := 56) d_TaggedFormat_write_56 sF_TaggedFormat_9_TaggedFormat hF rfl ?_
          refine T_iload_n (pc := 59) d_TaggedFormat_write_59 rfl ?_
          refine T_ivV (pc := 60) d_TaggedFormat_write_60 sI_TaggedFormat_35 (c_Schema_keyOf hs ht) hs.obj rfl rfl ⟨(Nat.le_of_ble_eq_true rfl), (Nat.le_of_ble_eq_true rfl)⟩ ⟨(Nat.le_of_ble_eq_true rfl), (Nat.le_of_ble_eq_true rfl)⟩ (Nat.le_of_ble_eq_true rfl) (fun r3 h3 q3 => ?_)
          obtain ⟨rfl, e3⟩ := q3
          rw [e3]
          refine T_i2l (pc := 63) d_TaggedFormat_write_63 ?_
          rw [nI_l (by omega)]
          refine T_aload_n (pc := 64) d_TaggedFormat_write_64 rfl ?_
          refine T_ivS (pc := 65) d_TaggedFormat_write_65 sI_TaggedFormat_38 (c_TaggedFormat_writeVarint (m := keyN t) hc (by omega) hb (by omega)) rfl rfl ⟨(Nat.le_of_ble_eq_true rfl), (Nat.le_of_ble_eq_true rfl)⟩ ⟨(Nat.le_of_ble_eq_true rfl), (Nat.le_of_ble_eq_true rfl)⟩ (Nat.le_of_ble_eq_true rfl) (fun r4 h4 q4 => ?_)
          obtain ⟨rfl, hb4, o4⟩ := q4
          have hs4 := hs.same (h' := h4) (fun q z1 z2 => o4 q (by omega) (by omega))
          have hF4 := (o4 fm d3 d4).trans hF
          refine T_aload_n (pc := 68) d_TaggedFormat_write_68 rfl ?_
          refine T_get (pc := 69) d_TaggedFormat_write_69 sF_TaggedFormat_9_TaggedFormat hF4 rfl ?_
          refine T_iload_n (pc := 72) d_TaggedFormat_write_72 rfl ?_
          refine T_ivV (pc := 73) d_TaggedFormat_write_73 sI_TaggedFormat_42 (c_Schema_kindOf hs4 ht) hs4.obj rfl rfl ⟨(Nat.le_of_ble_eq_true rfl), (Nat.le_of_ble_eq_true rfl)⟩ ⟨(Nat.le_of_ble_eq_true rfl), (Nat.le_of_ble_eq_true rfl)⟩ (Nat.le_of_ble_eq_true rfl) (fun r5 h5 q5 => ?_)
          obtain ⟨rfl, e5⟩ := q5
          rw [e5]
          refine T_iload (pc := 76) d_TaggedFormat_write_76 rfl ?_
          refine T_aload_n (pc := 78) d_TaggedFormat_write_78 rfl ?_
          refine T_ivS (pc := 79) d_TaggedFormat_write_79 sI_TaggedFormat_45 (c_TaggedFormat_writeInt hc hrg.2.2 hb4 (by rw [List.length_append]; omega)) rfl rfl ⟨(Nat.le_of_ble_eq_true rfl), (Nat.le_of_ble_eq_true rfl)⟩ ⟨(Nat.le_of_ble_eq_true rfl), (Nat.le_of_ble_eq_true rfl)⟩ (Nat.le_of_ble_eq_true rfl) (fun r6 h6 q6 => ?_)
          obtain ⟨rfl, hb6, o6⟩ := q6
          have o7 : ∀ q, q ≠ a → q ≠ a + 1 → h6 q = h q := fun q z1 z2 => (o6 q z1 z2).trans (o4 q z1 z2)
          refine T_iinc (pc := 82) d_TaggedFormat_write_82 rfl (nI_1 j) (Nat.le_of_ble_eq_true rfl) rfl ?_
          refine T_goto (tgt := 23) (pc := 85) d_TaggedFormat_write_85 (by decide) (T_loc [0, 2, 3, 4, 5, 6] rfl ?_)
          rw [List.append_assoc] at hb6
          refine ih (j + 1) h6 _ hus2 (by omega) ((o7 fm d3 d4).trans hF) (hs.same (fun q z1 z2 => o7 q (by omega) (by omega))) (hv.same (fun q z1 z2 => o7 q (by omega) (by omega))) hb6 (by simp only [List.length_append]; omega) (fun h' g' o' => hK h' (by rw [← List.append_assoc]; exact g') (fun q z1 z2 => (o' q z1 z2).trans (o7 q z1 z2)))
set_option maxRecDepth 100000 in
set_option maxHeartbeats 4000000 in
theorem c_TaggedFormat_write_out {n fm v sa a cap : Nat} {ns : List Sf} {vs : List (List Int32)} (hc : cap < 2 ^ 31) (d1 : sa + 4 < v) (d2 : v + 2 < a) (d3 : fm ≠ a) (d4 : fm ≠ a + 1) {Q : aQ} : ∀ (ts : List Sf) (us : List (List Int32)) (i : Nat) (h : aH) (l : List Int32), ns.drop i = ts → vs.drop i = us → i ≤ ns.length → h fm = some (.inr (7, [.ref sa])) → Sc h sa ns → Va h v sa ns vs → By h a cap l → l.length + (encT ts us).length ≤ cap → (∀ h', By h' a cap (l ++ encT ts us) → (∀ q, q ≠ a → q ≠ a + 1 → h' q = h q) → Q none h') → Tri M_TaggedFormat_write (a_rm 3 0 0) (a_Z 0 0 Q) 2 [(3, .int (nI i)), (0, .ref fm), (1, .ref v), (2, .ref a)] [] n h 0 0 := by
  intro ts
  induction ts with
  | nil =>
    intro us i h l hts hus hi hF hs hv hb hr hQ
    have hle := hs.le
    have hi2 : ns.length ≤ i := List.drop_eq_nil_iff.mp hts
    refine T_iload_n (pc := 2) d_TaggedFormat_write_2 rfl ?_
    refine T_aload_n (pc := 3) d_TaggedFormat_write_3 rfl ?_
    refine T_get (pc := 4) d_TaggedFormat_write_4 sF_TaggedFormat_9_TaggedFormat hF rfl ?_
    refine T_get (pc := 7) d_TaggedFormat_write_7 sF_TaggedFormat_15_Schema hs.obj rfl ?_
    refine T_icmp_ge (tgt := 94) (pc := 10) d_TaggedFormat_write_10 (by decide) (fun q10 => ?_) (fun q10 => ?_)
    · refine T_vret (pc := 94) d_TaggedFormat_write_94 rfl rfl (Nat.le_refl _) ?_
      exact hQ h (by simpa [encT] using hb) (fun _ _ _ => rfl)
    · exact absurd (nI_le hi2 (by omega)) q10
  | cons t ts ih =>
    intro us i h l hts hus hi hF hs hv hb hr hQ
    have hle := hs.le
    have hvl : vs.length = ns.length := hv.1
    have hi2 : i < ns.length := by
      have := congrArg List.length hts
      simp at this
      omega
    have ht : ns[i]? = some t := by
      have := congrArg (fun l => l[0]?) hts
      simpa using this
    obtain ⟨w, hw⟩ : ∃ w, vs[i]? = some w := ⟨vs[i], List.getElem?_eq_getElem (by omega)⟩
    have hts2 : ns.drop (i + 1) = ts := by
      rw [← List.drop_drop, hts]
      rfl
    have hus2 : us = w :: vs.drop (i + 1) := by
      rw [← hus, List.drop_eq_getElem_cons (by omega)]
      rw [List.getElem?_eq_getElem (by omega)] at hw
      rw [Option.some.inj hw]
    rw [hus2] at hr hQ
    rw [encT] at hr hQ
    rw [List.length_append] at hr
    refine T_iload_n (pc := 2) d_TaggedFormat_write_2 rfl ?_
    refine T_aload_n (pc := 3) d_TaggedFormat_write_3 rfl ?_
    refine T_get (pc := 4) d_TaggedFormat_write_4 sF_TaggedFormat_9_TaggedFormat hF rfl ?_
    refine T_get (pc := 7) d_TaggedFormat_write_7 sF_TaggedFormat_15_Schema hs.obj rfl ?_
    refine T_icmp_ge (tgt := 94) (pc := 10) d_TaggedFormat_write_10 (by decide) (fun q10 => ?_) (fun q10 => ?_)
    · exact absurd q10 (nI_ge hi2 (by omega))
    · refine T_aload_n (pc := 13) d_TaggedFormat_write_13 rfl ?_
      refine T_iload_n (pc := 14) d_TaggedFormat_write_14 rfl ?_
      refine T_ivV (pc := 15) d_TaggedFormat_write_15 sI_TaggedFormat_21 (c_Value_countOf hs hv ht hw) hv.obj rfl rfl ⟨(Nat.le_of_ble_eq_true rfl), (Nat.le_of_ble_eq_true rfl)⟩ ⟨(Nat.le_of_ble_eq_true rfl), (Nat.le_of_ble_eq_true rfl)⟩ (Nat.le_of_ble_eq_true rfl) (fun r1 h1 q1 => ?_)
      obtain ⟨rfl, e1⟩ := q1
      rw [e1]
      refine T_istore (pc := 18) d_TaggedFormat_write_18 (Nat.le_of_ble_eq_true rfl) rfl ?_
      refine T_iconst (v := 0) (pc := 20) d_TaggedFormat_write_20 rfl ?_
      refine T_istore (pc := 21) d_TaggedFormat_write_21 (Nat.le_of_ble_eq_true rfl) rfl ?_
      refine c_TaggedFormat_write_in hc d1 d2 d3 d4 ht hw w 0 h l (List.drop_zero) (Nat.zero_le _) hF hs hv hb (by omega) (fun h4 hb4 o5 => ?_)
      refine T_iinc (pc := 88) d_TaggedFormat_write_88 rfl (nI_1 i) (Nat.le_of_ble_eq_true rfl) rfl ?_
      refine T_goto (tgt := 2) (pc := 91) d_TaggedFormat_write_91 (by decide) (T_loc [0, 3, 4, 5] rfl ?_)
      exact ih _ (i + 1) h4 _ hts2 rfl (by omega) ((o5 fm d3 d4).trans hF) (hs.same (fun q q1 q3 => o5 q (by omega) (by omega))) (hv.same (fun q q1 q3 => o5 q (by omega) (by omega))) hb4 (by simp only [List.length_append]; omega) (fun h' g' o' => hQ h' (by rw [← List.append_assoc]; exact g') (fun q z1 z2 => (o' q z1 z2).trans (o5 q z1 z2)))
set_option maxRecDepth 100000 in
set_option maxHeartbeats 4000000 in
theorem c_TaggedFormat_write {n fm v sa a cap : Nat} {ns : List Sf} {vs : List (List Int32)} (hc : cap < 2 ^ 31) (d1 : sa + 4 < v) (d2 : v + 2 < a) (d3 : fm ≠ a) (d4 : fm ≠ a + 1) {h : aH} {l : List Int32} (hF : h fm = some (.inr (7, [.ref sa]))) (hs : Sc h sa ns) (hv : Va h v sa ns vs) (hb : By h a cap l) (hr : l.length + (encT ns vs).length ≤ cap) : Con M_TaggedFormat_write 3 0 0 n [.ref fm, .ref v, .ref a] h (fun r h' => r = none ∧ By h' a cap (l ++ encT ns vs) ∧ ∀ q, q ≠ a → q ≠ a + 1 → h' q = h q) := by
  refine Con.of rfl (Nat.le_of_ble_eq_true rfl) ?_
  refine T_iconst (v := 0) (pc := 0) d_TaggedFormat_write_0 rfl ?_
  refine T_istore_n (pc := 1) d_TaggedFormat_write_1 rfl (Nat.le_of_ble_eq_true rfl) rfl ?_
  exact c_TaggedFormat_write_out hc d1 d2 d3 d4 ns vs 0 h l (List.drop_zero) (List.drop_zero) (Nat.zero_le _) hF hs hv hb hr (fun h' g' o' => ⟨rfl, g', o'⟩)
