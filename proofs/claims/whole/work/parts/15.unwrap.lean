/-! OnceWire$Fragments.unwrap. -/
/-- a fragment's count -/
def fcn (w : Int32) : Nat := w.toBitVec.toNat % 2 ^ 31
def uw : Nat → List Int32 → Option (List Int32)
  | 0, _ => none
  | k + 1, l => if l.length < 4 then none else if l.length < 4 + fcn (wat l 0) then none else if wat l 0 < 0 then (if 4 + fcn (wat l 0) = l.length then some ((l.drop 4).take (fcn (wat l 0))) else none) else (uw k (l.drop (4 + fcn (wat l 0)))).map (fun r => (l.drop 4).take (fcn (wat l 0)) ++ r)
theorem fcn_lt (w : Int32) : fcn w < 2 ^ 31 := Nat.mod_lt _ (by decide)
theorem fcn_and (w : Int32) : w &&& 2147483647 = nI (fcn w) := pk_and w 31 (by decide)
theorem wat_drop (l : List Int32) (p : Nat) : wat (l.drop p) 0 = wat l p := by
  simp only [wat, List.getD_eq_getElem?_getD, List.getElem?_drop, Nat.add_zero, Nat.zero_add]
theorem nle_sub {a b c : Nat} (ha : a < 2 ^ 30) (hb : b < 2 ^ 30) (hc : c < 2 ^ 31) : (nI c ≤ nI a - nI b) ↔ b + c ≤ a := by
  rw [Int32.le_iff_toInt_le, pk_sub_toInt ha hb, nI_toInt hc]
  omega
theorem nlt_sub {a b c : Nat} (ha : a < 2 ^ 30) (hb : b < 2 ^ 30) (hc : c < 2 ^ 31) : (nI a - nI b < nI c) ↔ a < b + c := by
  rw [Int32.lt_iff_toInt_lt, pk_sub_toInt ha hb, nI_toInt hc]
  omega
set_option maxRecDepth 100000 in
set_option maxHeartbeats 4000000 in
theorem c_Fragments_unwrap_loop {n a a2 cap cap2 : Nat} {l2 : List Int32} {Q : aQ} (hc : cap < 2 ^ 31) (hc2 : cap2 < 2 ^ 29) (hne : a2 ≠ a) : ∀ (k j p : Nat) (h : aH) (l : List Int32), j + k = l2.length → By h a cap l → By h a2 cap2 l2 → l.length + (l2.length - p) ≤ cap → p ≤ l2.length → (∀ h' x, uw k (l2.drop p) = some x → By h' a cap (l ++ x) → (∀ q, q ≠ a → q ≠ a + 1 → h' q = h q) → Q (some (.int 1)) h') → (∀ h' l', uw k (l2.drop p) = none → By h' a cap l' → (∀ q, q ≠ a → q ≠ a + 1 → h' q = h q) → Q (some (.int 0)) h') → Tri M_Fragments_unwrap (a_rm 2 0 0) (a_Z 0 0 Q) 8 [(3, .int (nI j)), (2, .int (nI p)), (0, .ref a2), (1, .ref a)] [] n h 0 0 := by
  intro k
  induction k with
  | zero =>
    intro j p h l hk hb hb2 hr hp hQ1 hQ0
    have hle := hb2.le
    refine T_iload_n (pc := 8) d_Fragments_unwrap_8 rfl ?_
    refine T_aload_n (pc := 9) d_Fragments_unwrap_9 rfl ?_
    refine T_get (pc := 10) d_Fragments_unwrap_10 sF_Fragments_12_Bytes (By.obj hb2) rfl ?_
    refine T_icmp_ge (tgt := 94) (pc := 13) d_Fragments_unwrap_13 (by decide) (fun q13 => ?_) (fun q13 => ?_)
    · refine T_iconst (v := 0) (pc := 94) d_Fragments_unwrap_94 rfl ?_
      refine T_zret (pc := 95) d_Fragments_unwrap_95 rfl (by decide) rfl (Nat.le_refl _) ?_
      exact hQ0 h l rfl hb (fun _ _ _ => rfl)
    · exact absurd (nI_le (by omega) (by omega)) q13
  | succ k ih =>
    intro j p h l hk hb hb2 hr hp hQ1 hQ0
    have hle := hb2.le
    have n1 := hb.apart hb2 hne
    have e3 : (l2.drop p).length = l2.length - p := List.length_drop
    have e4 := wat_drop l2 p
    have hu : uw (k + 1) (l2.drop p) = if l2.length - p < 4 then none else if l2.length - p < 4 + fcn (wat l2 p) then none else if wat l2 p < 0 then (if 4 + fcn (wat l2 p) = l2.length - p then some ((l2.drop (p + 4)).take (fcn (wat l2 p))) else none) else (uw k (l2.drop (p + (4 + fcn (wat l2 p))))).map (fun r => (l2.drop (p + 4)).take (fcn (wat l2 p)) ++ r) := by
      rw [uw, e3, e4, List.drop_drop, List.drop_drop]
    have hj : ¬ nI l2.length ≤ nI j := nI_ge (by omega) (by omega)
    refine T_iload_n (pc := 8) d_Fragments_unwrap_8 rfl ?_
    refine T_aload_n (pc := 9) d_Fragments_unwrap_9 rfl ?_
    refine T_get (pc := 10) d_Fragments_unwrap_10 sF_Fragments_12_Bytes (By.obj hb2) rfl ?_
    refine T_icmp_ge (tgt := 94) (pc := 13) d_Fragments_unwrap_13 (by decide) (fun q13 => ?_) (fun q13 => ?_)
    · exact absurd q13 hj
    · refine T_iload_n (pc := 16) d_Fragments_unwrap_16 rfl ?_
      refine T_aload_n (pc := 17) d_Fragments_unwrap_17 rfl ?_
      refine T_get (pc := 18) d_Fragments_unwrap_18 sF_Fragments_12_Bytes (By.obj hb2) rfl ?_
      refine T_iconst (v := 4) (pc := 21) d_Fragments_unwrap_21 rfl ?_
      refine T_isub (pc := 22) d_Fragments_unwrap_22 ?_
      refine T_icmp_gt (tgt := 94) (pc := 23) d_Fragments_unwrap_23 (by decide) (fun q23 => ?_) (fun q23 => ?_)
      · refine T_iconst (v := 0) (pc := 94) d_Fragments_unwrap_94 rfl ?_
        refine T_zret (pc := 95) d_Fragments_unwrap_95 rfl (by decide) rfl (Nat.le_refl _) ?_
        refine hQ0 h l ?_ hb (fun _ _ _ => rfl)
        rw [hu, if_pos (show l2.length - p < 4 from ?_)]
        have := (nlt_sub (a := l2.length) (b := 4) (c := p) (by omega) (by decide) (by omega)).mp q23
        omega
      · refine T_aload_n (pc := 26) d_Fragments_unwrap_26 rfl ?_
        refine T_iload_n (pc := 27) d_Fragments_unwrap_27 rfl ?_
        have c0 : p + 4 ≤ l2.length := by
          have := mt (nlt_sub (a := l2.length) (b := 4) (c := p) (by omega) (by decide) (by omega)).mpr q23
          omega
        rw [if_neg (show ¬ l2.length - p < 4 by omega)] at hu
        refine T_ivV (pc := 28) d_Fragments_unwrap_28 sI_Fragments_33 (c_Bytes_wordAt hb2 (by omega) c0) (By.obj hb2) rfl rfl ⟨(Nat.le_of_ble_eq_true rfl), (Nat.le_of_ble_eq_true rfl)⟩ ⟨(Nat.le_of_ble_eq_true rfl), (Nat.le_of_ble_eq_true rfl)⟩ (Nat.le_of_ble_eq_true rfl) (fun r1 h1 q1 => ?_)
        obtain ⟨rfl, e1⟩ := q1
        rw [e1]
        refine T_istore (pc := 31) d_Fragments_unwrap_31 (Nat.le_of_ble_eq_true rfl) rfl ?_
        refine T_iload (pc := 33) d_Fragments_unwrap_33 rfl ?_
        refine T_ldc (pc := 35) d_Fragments_unwrap_35 (Ws_at (i := 6) (k := 19) rfl rfl) ?_
        refine T_iand (pc := 37) d_Fragments_unwrap_37 (T_top (fcn_and _) ?_)
        generalize hw : wat l2 p = w at hu ⊢
        have hf := fcn_lt w
        refine T_istore (pc := 38) d_Fragments_unwrap_38 (Nat.le_of_ble_eq_true rfl) rfl ?_
        refine T_iinc (pc := 40) d_Fragments_unwrap_40 rfl (nI_add p 4) (Nat.le_of_ble_eq_true rfl) rfl ?_
        refine T_iload (pc := 43) d_Fragments_unwrap_43 rfl ?_
        refine T_aload_n (pc := 45) d_Fragments_unwrap_45 rfl ?_
        refine T_get (pc := 46) d_Fragments_unwrap_46 sF_Fragments_12_Bytes (By.obj hb2) rfl ?_
        refine T_iload_n (pc := 49) d_Fragments_unwrap_49 rfl ?_
        refine T_isub (pc := 50) d_Fragments_unwrap_50 ?_
        refine T_icmp_le (tgt := 56) (pc := 51) d_Fragments_unwrap_51 (by decide) (fun q51 => ?_) (fun q51 => ?_)
        · refine T_aload_n (pc := 56) d_Fragments_unwrap_56 rfl ?_
          refine T_aload_n (pc := 57) d_Fragments_unwrap_57 rfl ?_
          refine T_iload_n (pc := 58) d_Fragments_unwrap_58 rfl ?_
          refine T_iload (pc := 59) d_Fragments_unwrap_59 rfl ?_
          have c1 : p + 4 + fcn w ≤ l2.length := (nle_sub (by omega) (by omega) hf).mp q51
          rw [if_neg (show ¬ l2.length - p < 4 + fcn w by omega)] at hu
          refine T_ivV (pc := 61) d_Fragments_unwrap_61 sI_Fragments_29 (c_Bytes_appendPart (st := p + 4) (ct := fcn w) hb hb2 hc (by omega) hne c1 (by omega)) (By.obj hb) rfl rfl ⟨(Nat.le_of_ble_eq_true rfl), (Nat.le_of_ble_eq_true rfl)⟩ ⟨(Nat.le_of_ble_eq_true rfl), (Nat.le_of_ble_eq_true rfl)⟩ (Nat.le_of_ble_eq_true rfl) (fun r2 h2 q2 => ?_)
          obtain ⟨rfl, hb3, o2⟩ := q2
          have hb23 := hb2.same (o2 a2 hne n1.1) (o2 (a2 + 1) n1.2.1 n1.2.2)
          refine T_iload_n (pc := 64) d_Fragments_unwrap_64 rfl ?_
          refine T_iload (pc := 65) d_Fragments_unwrap_65 rfl ?_
          refine T_iadd (pc := 67) d_Fragments_unwrap_67 (T_top (nI_add (p + 4) (fcn w)) ?_)
          refine T_istore_n (pc := 68) d_Fragments_unwrap_68 rfl (Nat.le_of_ble_eq_true rfl) rfl ?_
          refine T_iload (pc := 69) d_Fragments_unwrap_69 rfl ?_
          refine T_if_ge (tgt := 88) (pc := 71) d_Fragments_unwrap_71 (by decide) (fun q71 => ?_) (fun q71 => ?_)
          · rw [if_neg (Int32.not_lt.mpr q71)] at hu
            refine T_iinc (pc := 88) d_Fragments_unwrap_88 rfl (nI_1 j) (Nat.le_of_ble_eq_true rfl) rfl ?_
            refine T_goto (tgt := 8) (pc := 91) d_Fragments_unwrap_91 (by decide) (T_loc (L' := [(3, .int (nI (j + 1))), (2, .int (nI (p + 4 + fcn w))), (0, .ref a2), (1, .ref a)]) [0, 1, 4, 5] rfl ?_)
            rw [← Nat.add_assoc] at hu
            refine ih (j + 1) (p + 4 + fcn w) h2 _ (by omega) hb3 hb23 (by rw [List.length_append, List.length_take, List.length_drop]; omega) c1 (fun h' x hx g' o' => hQ1 h' _ (by rw [hu, hx]; rfl) (by rw [← List.append_assoc]; exact g') (fun q h3 h4 => (o' q h3 h4).trans (o2 q h3 h4))) (fun h' l' hx g' o' => hQ0 h' l' (by rw [hu, hx]; rfl) g' (fun q h3 h4 => (o' q h3 h4).trans (o2 q h3 h4)))
          · rw [if_pos (Int32.not_le.mp q71)] at hu
            refine T_iload_n (pc := 74) d_Fragments_unwrap_74 rfl ?_
            refine T_aload_n (pc := 75) d_Fragments_unwrap_75 rfl ?_
            refine T_get (pc := 76) d_Fragments_unwrap_76 sF_Fragments_12_Bytes (By.obj hb23) rfl ?_
            refine T_icmp_ne (tgt := 86) (pc := 79) d_Fragments_unwrap_79 (by decide) (fun q79 => ?_) (fun q79 => ?_)
            · refine T_iconst (v := 0) (pc := 86) d_Fragments_unwrap_86 rfl ?_
              refine T_zret (pc := 87) d_Fragments_unwrap_87 rfl (by decide) rfl (Nat.le_refl _) ?_
              first
                | (have e9 : p + 4 + fcn w = l2.length := (nI_eq (by omega) (by omega)).mp q79
                   exact hQ1 h2 _ (by rw [hu, if_pos (by omega)]) hb3 o2)
                | (have e9 : ¬ p + 4 + fcn w = l2.length := fun e => q79 (by rw [e])
                   exact hQ0 h2 _ (by rw [hu, if_neg (by omega)]) hb3 o2)
            · refine T_iconst (v := 1) (pc := 82) d_Fragments_unwrap_82 rfl ?_
              refine T_goto (tgt := 87) (pc := 83) d_Fragments_unwrap_83 (by decide) ?_
              refine T_zret (pc := 87) d_Fragments_unwrap_87 rfl (by decide) rfl (Nat.le_refl _) ?_
              first
                | (have e9 : p + 4 + fcn w = l2.length := (nI_eq (by omega) (by omega)).mp q79
                   exact hQ1 h2 _ (by rw [hu, if_pos (by omega)]) hb3 o2)
                | (have e9 : ¬ p + 4 + fcn w = l2.length := fun e => q79 (by rw [e])
                   exact hQ0 h2 _ (by rw [hu, if_neg (by omega)]) hb3 o2)
        · refine T_iconst (v := 0) (pc := 54) d_Fragments_unwrap_54 rfl ?_
          refine T_zret (pc := 55) d_Fragments_unwrap_55 rfl (by decide) rfl (Nat.le_refl _) ?_
          refine hQ0 h l ?_ hb (fun _ _ _ => rfl)
          rw [hu, if_pos (show l2.length - p < 4 + fcn w from ?_)]
          have := mt (nle_sub (a := l2.length) (b := p + 4) (c := fcn w) (by omega) (by omega) hf).mpr q51
          omega
set_option maxRecDepth 100000 in
set_option maxHeartbeats 4000000 in
theorem c_Fragments_unwrap {n a a2 cap cap2 : Nat} {h : aH} {l l2 : List Int32} (hb : By h a cap l) (hb2 : By h a2 cap2 l2) (hc : cap < 2 ^ 31) (hc2 : cap2 < 2 ^ 29) (hne : a2 ≠ a) (hr : l2.length ≤ cap) : Con M_Fragments_unwrap 2 0 0 n [.ref a2, .ref a] h (fun r h' => (∀ q, q ≠ a → q ≠ a + 1 → h' q = h q) ∧ match uw l2.length l2 with | some x => r = some (.int 1) ∧ By h' a cap x | none => r = some (.int 0) ∧ ∃ l', By h' a cap l') := by
  have n1 := hb.apart hb2 hne
  refine Con.of rfl (Nat.le_of_ble_eq_true rfl) ?_
  refine T_aload_n (pc := 0) d_Fragments_unwrap_0 rfl ?_
  refine T_ivV (pc := 1) d_Fragments_unwrap_1 sI_Fragments_7 (c_Bytes_clear hb) (By.obj hb) rfl rfl ⟨(Nat.le_of_ble_eq_true rfl), (Nat.le_of_ble_eq_true rfl)⟩ ⟨(Nat.le_of_ble_eq_true rfl), (Nat.le_of_ble_eq_true rfl)⟩ (Nat.le_of_ble_eq_true rfl) (fun r0 h0 q0 => ?_)
  obtain ⟨rfl, hb0, o0⟩ := q0
  have hb20 := hb2.same (o0 a2 hne) (o0 (a2 + 1) n1.2.1)
  refine T_iconst (v := 0) (pc := 4) d_Fragments_unwrap_4 rfl ?_
  refine T_istore_n (pc := 5) d_Fragments_unwrap_5 rfl (Nat.le_of_ble_eq_true rfl) rfl ?_
  refine T_iconst (v := 0) (pc := 6) d_Fragments_unwrap_6 rfl ?_
  refine T_istore_n (pc := 7) d_Fragments_unwrap_7 rfl (Nat.le_of_ble_eq_true rfl) rfl ?_
  refine c_Fragments_unwrap_loop hc hc2 hne l2.length 0 0 h0 [] (by omega) hb0 hb20 (by simpa using hr) (by omega) (fun h' x hx g' o' => ?_) (fun h' l' hx g' o' => ?_)
  · refine ⟨fun q h1 h2 => (o' q h1 h2).trans (o0 q h1), ?_⟩
    rw [List.drop_zero] at hx
    rw [hx]
    exact ⟨rfl, g'⟩
  · refine ⟨fun q h1 h2 => (o' q h1 h2).trans (o0 q h1), ?_⟩
    rw [List.drop_zero] at hx
    rw [hx]
    exact ⟨rfl, l', g'⟩
