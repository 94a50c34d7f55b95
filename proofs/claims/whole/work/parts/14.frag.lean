/-! OnceWire$Fragments: a record in fragments, and back. -/
def wrapL : Nat → List Int32 → List Int32
  | 0, _ => []
  | k + 1, l => if l.length = 0 then [] else if l.length ≤ 16 then wby (nI l.length + (-2147483648)) ++ l else wby 16 ++ (l.take 16 ++ wrapL k (l.drop 16))
theorem wby_len (w : Int32) : (wby w).length = 4 := rfl
theorem min16 {len s : Nat} (h : s ≤ len) (hl : len < 2 ^ 30) : (if nI len - nI s < 16 then nI len - nI s else 16) = nI (min (len - s) 16) := by
  rw [pk_sub h]
  by_cases q : len - s < 16
  · rw [if_pos (show nI (len - s) < 16 from nI_lt (b := 16) q (by decide)), Nat.min_eq_left (by omega)]
  · rw [if_neg (show ¬ nI (len - s) < 16 from nI_nlt (a := len - s) (b := 16) (by omega) (by omega)), Nat.min_eq_right (by omega)]
    rfl
theorem wrapL_nil (k : Nat) : wrapL k [] = [] := by cases k <;> rfl
set_option maxRecDepth 100000 in
set_option maxHeartbeats 4000000 in
theorem c_Fragments_wrap_loop {n a a2 cap cap2 : Nat} {l2 : List Int32} {Q : aQ} (hc : cap < 2 ^ 31) (hc2 : cap2 < 2 ^ 30) (hne : a2 ≠ a) : ∀ (k i : Nat) (h : aH) (l : List Int32), l2.length ≤ i + 16 * k → By h a cap l → By h a2 cap2 l2 → l.length + (wrapL k (l2.drop i)).length ≤ cap → i ≤ l2.length + 16 → (∀ h', By h' a cap (l ++ wrapL k (l2.drop i)) → (∀ q, q ≠ a → q ≠ a + 1 → h' q = h q) → Q none h') → Tri M_Fragments_wrap (a_rm 2 0 0) (a_Z 0 0 Q) 6 [(2, .int (nI i)), (0, .ref a2), (1, .ref a)] [] n h 0 0 := by
  intro k
  induction k with
  | zero =>
    intro i h l hk hb hb2 hr hi hQ
    have hle := hb2.le
    refine T_iload_n (pc := 6) d_Fragments_wrap_6 rfl ?_
    refine T_aload_n (pc := 7) d_Fragments_wrap_7 rfl ?_
    refine T_get (pc := 8) d_Fragments_wrap_8 sF_Fragments_12_Bytes (By.obj hb2) rfl ?_
    refine T_icmp_ge (tgt := 73) (pc := 11) d_Fragments_wrap_11 (by decide) (fun q11 => ?_) (fun q11 => ?_)
    · refine T_vret (pc := 73) d_Fragments_wrap_73 rfl rfl (Nat.le_refl _) ?_
      refine hQ h ?_ (fun _ _ _ => rfl)
      simpa [wrapL] using hb
    · exact absurd (nI_le (by omega) (by omega)) q11
  | succ k ih =>
    intro i h l hk hb hb2 hr hi hQ
    have hle := hb2.le
    have n1 := hb.apart hb2 hne
    have e3 : (l2.drop i).length = l2.length - i := List.length_drop
    by_cases c0 : l2.length ≤ i
    · refine T_iload_n (pc := 6) d_Fragments_wrap_6 rfl ?_
      refine T_aload_n (pc := 7) d_Fragments_wrap_7 rfl ?_
      refine T_get (pc := 8) d_Fragments_wrap_8 sF_Fragments_12_Bytes (By.obj hb2) rfl ?_
      refine T_icmp_ge (tgt := 73) (pc := 11) d_Fragments_wrap_11 (by decide) (fun q11 => ?_) (fun q11 => ?_)
      · refine T_vret (pc := 73) d_Fragments_wrap_73 rfl rfl (Nat.le_refl _) ?_
        refine hQ h ?_ (fun _ _ _ => rfl)
        rw [List.drop_eq_nil_of_le c0, wrapL_nil, List.append_nil]
        exact hb
      · exact absurd (nI_le c0 (by omega)) q11
    · by_cases c1 : l2.length ≤ i + 16
      · have e4 : wrapL (k + 1) (l2.drop i) = wby (nI (l2.length - i) + (-2147483648)) ++ l2.drop i := by
          rw [wrapL, if_neg (by omega), if_pos (by omega), e3]
        rw [e4] at hr
        simp only [List.length_append, wby_len, e3] at hr
        refine T_iload_n (pc := 6) d_Fragments_wrap_6 rfl ?_
        refine T_aload_n (pc := 7) d_Fragments_wrap_7 rfl ?_
        refine T_get (pc := 8) d_Fragments_wrap_8 sF_Fragments_12_Bytes (By.obj hb2) rfl ?_
        refine T_icmp_ge (tgt := 73) (pc := 11) d_Fragments_wrap_11 (by decide) (fun q11 => ?_) (fun q11 => ?_)
        · exact absurd q11 (nI_ge (by omega) (by omega))
        · refine T_bipush (v := 16) (pc := 14) d_Fragments_wrap_14 rfl ?_
          refine T_aload_n (pc := 16) d_Fragments_wrap_16 rfl ?_
          refine T_get (pc := 17) d_Fragments_wrap_17 sF_Fragments_12_Bytes (By.obj hb2) rfl ?_
          refine T_iload_n (pc := 20) d_Fragments_wrap_20 rfl ?_
          refine T_isub (pc := 21) d_Fragments_wrap_21 ?_
          refine T_min (pc := 22) d_Fragments_wrap_22 sI_Fragments_18 ⟨(Nat.le_of_ble_eq_true rfl), (Nat.le_of_ble_eq_true rfl)⟩ ⟨(Nat.le_of_ble_eq_true rfl), (Nat.le_of_ble_eq_true rfl)⟩ (Nat.le_of_ble_eq_true rfl) ?_
          rw [min16 (by omega) (by omega), Nat.min_eq_left (by omega)]
          refine T_istore_n (pc := 25) d_Fragments_wrap_25 rfl (Nat.le_of_ble_eq_true rfl) rfl ?_
          refine T_iload_n (pc := 26) d_Fragments_wrap_26 rfl ?_
          refine T_iload_n (pc := 27) d_Fragments_wrap_27 rfl ?_
          refine T_iadd (pc := 28) d_Fragments_wrap_28 ?_
          refine T_aload_n (pc := 29) d_Fragments_wrap_29 rfl ?_
          refine T_get (pc := 30) d_Fragments_wrap_30 sF_Fragments_12_Bytes (By.obj hb2) rfl ?_
          refine T_icmp_ne (tgt := 40) (pc := 33) d_Fragments_wrap_33 (by decide) (fun q33 => ?_) (fun q33 => ?_)
          · exact absurd (by rw [nI_add]; congr 1; omega) q33
          · refine T_iconst (v := 1) (pc := 36) d_Fragments_wrap_36 rfl ?_
            refine T_goto (tgt := 41) (pc := 37) d_Fragments_wrap_37 (by decide) ?_
            refine T_istore (pc := 41) d_Fragments_wrap_41 (Nat.le_of_ble_eq_true rfl) rfl ?_
            refine T_aload_n (pc := 43) d_Fragments_wrap_43 rfl ?_
            refine T_iload (pc := 44) d_Fragments_wrap_44 rfl ?_
            refine T_if_eq (tgt := 56) (pc := 46) d_Fragments_wrap_46 (by decide) (fun q46 => ?_) (fun q46 => ?_)
            · exact absurd q46 (by decide)
            · refine T_iload_n (pc := 49) d_Fragments_wrap_49 rfl ?_
              refine T_ldc (pc := 50) d_Fragments_wrap_50 (Ws_at (i := 6) (k := 14) rfl rfl) ?_
              refine T_iadd (pc := 52) d_Fragments_wrap_52 ?_
              refine T_goto (tgt := 57) (pc := 53) d_Fragments_wrap_53 (by decide) ?_
              refine T_ivV (pc := 57) d_Fragments_wrap_57 sI_Fragments_25 (c_Bytes_appendWord (x := (nI (l2.length - i) + (-2147483648))) hb hc (by omega)) (By.obj hb) rfl rfl ⟨(Nat.le_of_ble_eq_true rfl), (Nat.le_of_ble_eq_true rfl)⟩ ⟨(Nat.le_of_ble_eq_true rfl), (Nat.le_of_ble_eq_true rfl)⟩ (Nat.le_of_ble_eq_true rfl) (fun r1 h1 q1 => ?_)
              obtain ⟨rfl, hb1, o1⟩ := q1
              have hb21 := hb2.same (o1 a2 hne n1.1) (o1 (a2 + 1) n1.2.1 n1.2.2)
              refine T_aload_n (pc := 60) d_Fragments_wrap_60 rfl ?_
              refine T_aload_n (pc := 61) d_Fragments_wrap_61 rfl ?_
              refine T_iload_n (pc := 62) d_Fragments_wrap_62 rfl ?_
              refine T_iload_n (pc := 63) d_Fragments_wrap_63 rfl ?_
              refine T_ivV (pc := 64) d_Fragments_wrap_64 sI_Fragments_29 (c_Bytes_appendPart (st := i) (ct := (l2.length - i)) hb1 hb21 hc (by omega) hne (by omega) (by rw [List.length_append, wby_len]; omega)) (By.obj hb1) rfl rfl ⟨(Nat.le_of_ble_eq_true rfl), (Nat.le_of_ble_eq_true rfl)⟩ ⟨(Nat.le_of_ble_eq_true rfl), (Nat.le_of_ble_eq_true rfl)⟩ (Nat.le_of_ble_eq_true rfl) (fun r2 h2 q2 => ?_)
              obtain ⟨rfl, hb3, o2⟩ := q2
              have hb23 := hb21.same (o2 a2 hne n1.1) (o2 (a2 + 1) n1.2.1 n1.2.2)
              refine T_iinc (pc := 67) d_Fragments_wrap_67 rfl (nI_add i 16) (Nat.le_of_ble_eq_true rfl) rfl ?_
              refine T_goto (tgt := 6) (pc := 70) d_Fragments_wrap_70 (by decide) (T_loc (L' := [(2, .int (nI (i + 16))), (0, .ref a2), (1, .ref a)]) [0, 3, 4] rfl ?_)
              rw [List.append_assoc, List.take_of_length_le (by rw [List.length_drop]; omega)] at hb3
              have e5 : l2.drop (i + 16) = [] := List.drop_eq_nil_of_le (by omega)
              refine ih (i + 16) h2 _ (by omega) hb3 hb23 ?_ (by omega) (fun h' g' o' => hQ h' ?_ (fun q h3 h4 => (o' q h3 h4).trans ((o2 q h3 h4).trans (o1 q h3 h4))))
              · rw [e5, wrapL_nil]
                simp only [List.length_append, wby_len, List.length_drop, List.length_nil]
                omega
              · rw [e5, wrapL_nil, List.append_nil] at g'
                rw [e4]
                exact g'
      · have e4 : wrapL (k + 1) (l2.drop i) = wby 16 ++ ((l2.drop i).take 16 ++ wrapL k (l2.drop (i + 16))) := by
          rw [wrapL, if_neg (by omega), if_neg (by omega), List.drop_drop]
        have hr0 := hr
        rw [e4] at hr
        simp only [List.length_append, wby_len, List.length_take, e3] at hr
        refine T_iload_n (pc := 6) d_Fragments_wrap_6 rfl ?_
        refine T_aload_n (pc := 7) d_Fragments_wrap_7 rfl ?_
        refine T_get (pc := 8) d_Fragments_wrap_8 sF_Fragments_12_Bytes (By.obj hb2) rfl ?_
        refine T_icmp_ge (tgt := 73) (pc := 11) d_Fragments_wrap_11 (by decide) (fun q11 => ?_) (fun q11 => ?_)
        · exact absurd q11 (nI_ge (by omega) (by omega))
        · refine T_bipush (v := 16) (pc := 14) d_Fragments_wrap_14 rfl ?_
          refine T_aload_n (pc := 16) d_Fragments_wrap_16 rfl ?_
          refine T_get (pc := 17) d_Fragments_wrap_17 sF_Fragments_12_Bytes (By.obj hb2) rfl ?_
          refine T_iload_n (pc := 20) d_Fragments_wrap_20 rfl ?_
          refine T_isub (pc := 21) d_Fragments_wrap_21 ?_
          refine T_min (pc := 22) d_Fragments_wrap_22 sI_Fragments_18 ⟨(Nat.le_of_ble_eq_true rfl), (Nat.le_of_ble_eq_true rfl)⟩ ⟨(Nat.le_of_ble_eq_true rfl), (Nat.le_of_ble_eq_true rfl)⟩ (Nat.le_of_ble_eq_true rfl) ?_
          rw [min16 (by omega) (by omega), Nat.min_eq_right (by omega)]
          refine T_istore_n (pc := 25) d_Fragments_wrap_25 rfl (Nat.le_of_ble_eq_true rfl) rfl ?_
          refine T_iload_n (pc := 26) d_Fragments_wrap_26 rfl ?_
          refine T_iload_n (pc := 27) d_Fragments_wrap_27 rfl ?_
          refine T_iadd (pc := 28) d_Fragments_wrap_28 ?_
          refine T_aload_n (pc := 29) d_Fragments_wrap_29 rfl ?_
          refine T_get (pc := 30) d_Fragments_wrap_30 sF_Fragments_12_Bytes (By.obj hb2) rfl ?_
          refine T_icmp_ne (tgt := 40) (pc := 33) d_Fragments_wrap_33 (by decide) (fun q33 => ?_) (fun q33 => ?_)
          · refine T_iconst (v := 0) (pc := 40) d_Fragments_wrap_40 rfl ?_
            refine T_istore (pc := 41) d_Fragments_wrap_41 (Nat.le_of_ble_eq_true rfl) rfl ?_
            refine T_aload_n (pc := 43) d_Fragments_wrap_43 rfl ?_
            refine T_iload (pc := 44) d_Fragments_wrap_44 rfl ?_
            refine T_if_eq (tgt := 56) (pc := 46) d_Fragments_wrap_46 (by decide) (fun q46 => ?_) (fun q46 => ?_)
            · refine T_iload_n (pc := 56) d_Fragments_wrap_56 rfl ?_
              refine T_ivV (pc := 57) d_Fragments_wrap_57 sI_Fragments_25 (c_Bytes_appendWord (x := (nI 16)) hb hc (by omega)) (By.obj hb) rfl rfl ⟨(Nat.le_of_ble_eq_true rfl), (Nat.le_of_ble_eq_true rfl)⟩ ⟨(Nat.le_of_ble_eq_true rfl), (Nat.le_of_ble_eq_true rfl)⟩ (Nat.le_of_ble_eq_true rfl) (fun r1 h1 q1 => ?_)
              obtain ⟨rfl, hb1, o1⟩ := q1
              have hb21 := hb2.same (o1 a2 hne n1.1) (o1 (a2 + 1) n1.2.1 n1.2.2)
              refine T_aload_n (pc := 60) d_Fragments_wrap_60 rfl ?_
              refine T_aload_n (pc := 61) d_Fragments_wrap_61 rfl ?_
              refine T_iload_n (pc := 62) d_Fragments_wrap_62 rfl ?_
              refine T_iload_n (pc := 63) d_Fragments_wrap_63 rfl ?_
              refine T_ivV (pc := 64) d_Fragments_wrap_64 sI_Fragments_29 (c_Bytes_appendPart (st := i) (ct := 16) hb1 hb21 hc (by omega) hne (by omega) (by rw [List.length_append, wby_len]; omega)) (By.obj hb1) rfl rfl ⟨(Nat.le_of_ble_eq_true rfl), (Nat.le_of_ble_eq_true rfl)⟩ ⟨(Nat.le_of_ble_eq_true rfl), (Nat.le_of_ble_eq_true rfl)⟩ (Nat.le_of_ble_eq_true rfl) (fun r2 h2 q2 => ?_)
              obtain ⟨rfl, hb3, o2⟩ := q2
              have hb23 := hb21.same (o2 a2 hne n1.1) (o2 (a2 + 1) n1.2.1 n1.2.2)
              refine T_iinc (pc := 67) d_Fragments_wrap_67 rfl (nI_add i 16) (Nat.le_of_ble_eq_true rfl) rfl ?_
              refine T_goto (tgt := 6) (pc := 70) d_Fragments_wrap_70 (by decide) (T_loc (L' := [(2, .int (nI (i + 16))), (0, .ref a2), (1, .ref a)]) [0, 3, 4] rfl ?_)
              rw [List.append_assoc] at hb3
              refine ih (i + 16) h2 _ (by omega) hb3 hb23 ?_ (by omega) (fun h' g' o' => hQ h' ?_ (fun q h3 h4 => (o' q h3 h4).trans ((o2 q h3 h4).trans (o1 q h3 h4))))
              · simp only [List.length_append, wby_len, List.length_take, e3]
                omega
              · rw [e4]
                rw [List.append_assoc, List.append_assoc] at g'
                exact g'
            · exact absurd rfl q46
          · exact absurd q33 (fun e => absurd ((nI_eq (by omega) (by omega)).mp (show nI (i + 16) = nI l2.length by rw [← nI_add]; exact e)) (by omega))
set_option maxRecDepth 100000 in
set_option maxHeartbeats 4000000 in
theorem c_Fragments_wrap {n a a2 cap cap2 : Nat} {h : aH} {l l2 : List Int32} (hb : By h a cap l) (hb2 : By h a2 cap2 l2) (hc : cap < 2 ^ 31) (hc2 : cap2 < 2 ^ 30) (hne : a2 ≠ a) (hr : (wrapL l2.length l2).length ≤ cap) : Con M_Fragments_wrap 2 0 0 n [.ref a2, .ref a] h (fun r h' => r = none ∧ By h' a cap (wrapL l2.length l2) ∧ ∀ q, q ≠ a → q ≠ a + 1 → h' q = h q) := by
  have n1 := hb.apart hb2 hne
  refine Con.of rfl (Nat.le_of_ble_eq_true rfl) ?_
  refine T_aload_n (pc := 0) d_Fragments_wrap_0 rfl ?_
  refine T_ivV (pc := 1) d_Fragments_wrap_1 sI_Fragments_7 (c_Bytes_clear hb) (By.obj hb) rfl rfl ⟨(Nat.le_of_ble_eq_true rfl), (Nat.le_of_ble_eq_true rfl)⟩ ⟨(Nat.le_of_ble_eq_true rfl), (Nat.le_of_ble_eq_true rfl)⟩ (Nat.le_of_ble_eq_true rfl) (fun r0 h0 q0 => ?_)
  obtain ⟨rfl, hb0, o0⟩ := q0
  have hb20 := hb2.same (o0 a2 hne) (o0 (a2 + 1) n1.2.1)
  refine T_iconst (v := 0) (pc := 4) d_Fragments_wrap_4 rfl ?_
  refine T_istore_n (pc := 5) d_Fragments_wrap_5 rfl (Nat.le_of_ble_eq_true rfl) rfl ?_
  exact c_Fragments_wrap_loop hc hc2 hne l2.length 0 h0 [] (by omega) hb0 hb20 (by simpa using hr) (by omega) (fun h' g' o' => ⟨rfl, by simpa using g', fun q h1 h2 => (o' q h1 h2).trans (o0 q h1)⟩)
