/-! OnceWire$Reader.takeVarint, skip. -/
set_option maxRecDepth 100000 in
set_option maxHeartbeats 4000000 in
theorem c_Reader_takeVarint_loop {n a src cap : Nat} {f : Bool} {l : List Int32} {h0 : aH} {Q : aQ} (hc : cap < 2 ^ 30) (n1 : src ≠ a) (n2 : src + 1 ≠ a) : ∀ (k i p : Nat) (acc : Int64) (h : aH), i + k = 10 → p ≤ l.length → Rd h a src p f → By h src cap l → (∀ q, q ≠ a → h q = h0 q) → (∀ h' v m, rv k i acc (l.drop p) = some (v, m) → Rd h' a src (p + m) f → (∀ q, q ≠ a → h' q = h0 q) → Q (some (.long v)) h') → (∀ h' p', rv k i acc (l.drop p) = none → p' ≤ l.length → Rd h' a src p' true → (∀ q, q ≠ a → h' q = h0 q) → Q (some (.long 0)) h') → Tri M_Reader_takeVarint (a_rm 0 0 0) (a_Z 0 0 Q) 4 [(3, .int (nI i)), (1, .long acc), (0, .ref a)] [] n h 0 0 := by
  intro k
  induction k with
  | zero =>
    intro i p acc h hik hp hR hb hO hQ1 hQ0
    have hi : i = 10 := by omega
    subst hi
    unfold Rd at *
    refine T_iload_n (pc := 4) d_Reader_takeVarint_4 rfl ?_
    refine T_bipush (v := 10) (pc := 5) d_Reader_takeVarint_5 rfl ?_
    refine T_icmp_ge (tgt := 78) (pc := 7) d_Reader_takeVarint_7 (by decide) (fun q7 => ?_) (fun q7 => ?_)
    · refine T_aload_n (pc := 78) d_Reader_takeVarint_78 rfl ?_
      refine T_iconst (v := 1) (pc := 79) d_Reader_takeVarint_79 rfl ?_
      refine T_put (pc := 80) d_Reader_takeVarint_80 sF_Reader_17_Reader hR (Nat.le_of_ble_eq_true rfl) (a_fit_z (by decide)) (T_up (fun h80x1 g80x1 o80x1 => ?_))
      refine T_lconst (v := 0) (pc := 83) d_Reader_takeVarint_83 rfl ?_
      refine T_lret (pc := 84) d_Reader_takeVarint_84 rfl rfl (Nat.le_refl _) ?_
      exact hQ0 _ p rfl hp g80x1 (fun q hq => (o80x1 q hq).trans (hO q hq))
    · exact absurd (show (10 : Int32) ≤ nI 10 by decide) q7
  | succ k ih =>
    intro i p acc h hik hp hR hb hO hQ1 hQ0
    unfold Rd at *
    have hle := hb.le
    obtain ⟨fc, hB, hA, hl, hf⟩ := id hb
    refine T_iload_n (pc := 4) d_Reader_takeVarint_4 rfl ?_
    refine T_bipush (v := 10) (pc := 5) d_Reader_takeVarint_5 rfl ?_
    refine T_icmp_ge (tgt := 78) (pc := 7) d_Reader_takeVarint_7 (by decide) (fun q7 => ?_) (fun q7 => ?_)
    · exact absurd q7 (nI_ge (b := 10) (by omega) (by decide))
    · refine T_aload_n (pc := 10) d_Reader_takeVarint_10 rfl ?_
      refine T_get (pc := 11) d_Reader_takeVarint_11 sF_Reader_13_Reader hR rfl ?_
      refine T_aload_n (pc := 14) d_Reader_takeVarint_14 rfl ?_
      refine T_get (pc := 15) d_Reader_takeVarint_15 sF_Reader_7_Reader hR rfl ?_
      refine T_get (pc := 18) d_Reader_takeVarint_18 sF_Reader_27_Bytes hB rfl ?_
      refine T_icmp_ge (tgt := 78) (pc := 21) d_Reader_takeVarint_21 (by decide) (fun q21 => ?_) (fun q21 => ?_)
      · have hpl : p = l.length := by have := (nI_leI (a := l.length) (b := p) (by omega) (by omega)).mp q21; omega
        have er : rv (k + 1) i acc (l.drop p) = none := by rw [List.drop_eq_nil_of_le (by omega)]; rfl
        refine T_aload_n (pc := 78) d_Reader_takeVarint_78 rfl ?_
        refine T_iconst (v := 1) (pc := 79) d_Reader_takeVarint_79 rfl ?_
        refine T_put (pc := 80) d_Reader_takeVarint_80 sF_Reader_17_Reader hR (Nat.le_of_ble_eq_true rfl) (a_fit_z (by decide)) (T_up (fun h80x1 g80x1 o80x1 => ?_))
        have hB_80x1 := (o80x1 src n1).trans hB
        have hA_80x1 := (o80x1 (src + 1) n2).trans hA
        refine T_lconst (v := 0) (pc := 83) d_Reader_takeVarint_83 rfl ?_
        refine T_lret (pc := 84) d_Reader_takeVarint_84 rfl rfl (Nat.le_refl _) ?_
        exact hQ0 _ p er hp g80x1 (fun q hq => (o80x1 q hq).trans (hO q hq))
      · have hpl : p < l.length := by have := mt (nI_leI (a := l.length) (b := p) (by omega) (by omega)).mpr q21; omega
        have e1 : l.drop p = fc p :: l.drop (p + 1) := by
          have e3 := hf _ hpl
          rw [List.getElem?_eq_getElem hpl] at e3
          rw [List.drop_eq_getElem_cons hpl, Option.some.inj e3]
        rw [e1] at hQ1 hQ0
        refine T_aload_n (pc := 24) d_Reader_takeVarint_24 rfl ?_
        refine T_get (pc := 25) d_Reader_takeVarint_25 sF_Reader_7_Reader hR rfl ?_
        refine T_get (pc := 28) d_Reader_takeVarint_28 sF_Reader_32_Bytes hB rfl ?_
        refine T_aload_n (pc := 31) d_Reader_takeVarint_31 rfl ?_
        refine T_get (pc := 32) d_Reader_takeVarint_32 sF_Reader_13_Reader hR rfl ?_
        refine T_iald (pc := 35) d_Reader_takeVarint_35 hA (vp_in_nI (by omega) (by omega)) (T_top (show fc (nI p).toNatClampNeg = fc p by rw [nI_clamp (by omega)]) ?_)
        refine T_istore (pc := 36) d_Reader_takeVarint_36 (Nat.le_of_ble_eq_true rfl) rfl ?_
        refine T_aload_n (pc := 38) d_Reader_takeVarint_38 rfl ?_
        refine T_dup (pc := 39) d_Reader_takeVarint_39 rfl ?_
        refine T_get (pc := 40) d_Reader_takeVarint_40 sF_Reader_13_Reader hR rfl ?_
        refine T_iconst (v := 1) (pc := 43) d_Reader_takeVarint_43 rfl ?_
        refine T_iadd (pc := 44) d_Reader_takeVarint_44 ?_
        refine T_put (pc := 45) d_Reader_takeVarint_45 sF_Reader_13_Reader hR (Nat.le_of_ble_eq_true rfl) (a_fit_i _) (T_up (fun h45x2 g45x2 o45x2 => ?_))
        have hB_45x2 := (o45x2 src n1).trans hB
        have hA_45x2 := (o45x2 (src + 1) n2).trans hA
        have g2 : h45x2 a = some (.inr (4, [.ref src, .int (nI (p + 1)), .int (bI f)])) := by
          rw [g45x2, nI_1]
          rfl
        refine T_lload_n (pc := 48) d_Reader_takeVarint_48 rfl ?_
        refine T_iload (pc := 49) d_Reader_takeVarint_49 rfl ?_
        refine T_bipush (v := 127) (pc := 51) d_Reader_takeVarint_51 rfl ?_
        refine T_iand (pc := 53) d_Reader_takeVarint_53 ?_
        refine T_i2l (pc := 54) d_Reader_takeVarint_54 ?_
        refine T_bipush (v := 7) (pc := 55) d_Reader_takeVarint_55 rfl ?_
        refine T_iload_n (pc := 57) d_Reader_takeVarint_57 rfl ?_
        refine T_imul (pc := 58) d_Reader_takeVarint_58 ?_
        refine T_lshl (pc := 59) d_Reader_takeVarint_59 ?_
        refine T_lor (pc := 60) d_Reader_takeVarint_60 ?_
        refine T_lstore_n (pc := 61) d_Reader_takeVarint_61 rfl (Nat.le_of_ble_eq_true rfl) rfl ?_
        refine T_iload (pc := 62) d_Reader_takeVarint_62 rfl ?_
        refine T_sipush (v := 128) (pc := 64) d_Reader_takeVarint_64 rfl ?_
        refine T_icmp_ge (tgt := 72) (pc := 67) d_Reader_takeVarint_67 (by decide) (fun q67 => ?_) (fun q67 => ?_)
        · refine T_iinc (pc := 72) d_Reader_takeVarint_72 rfl (nI_1 i) (Nat.le_of_ble_eq_true rfl) rfl ?_
          refine T_goto (tgt := 4) (pc := 75) d_Reader_takeVarint_75 (by decide) (T_loc [0, 1, 3] rfl ?_)
          have er : ∀ z, rv (k + 1) i acc (fc p :: l.drop (p + 1)) = z → z = (rv k (i + 1) (acc ||| ((fc p &&& 127).toInt64 <<< ((7 * nI i).toInt64 &&& 63))) (l.drop (p + 1))).map (fun q => (q.1, q.2 + 1)) := fun z hz => by
            rw [← hz, rv, if_neg (Int32.not_lt.mpr q67)]
          exact ih (i + 1) (p + 1) _ _ (by omega) (by omega) g2 (hb.same (o45x2 src n1) (o45x2 (src + 1) n2)) (fun q hq => (o45x2 q hq).trans (hO q hq)) (fun h' v m hx g' o' => hQ1 h' v (m + 1) ((er _ rfl).trans (by rw [hx]; rfl)) (by rw [g', show p + 1 + m = p + (m + 1) by omega]) o') (fun h' p' hx hp' g' o' => hQ0 h' p' ((er _ rfl).trans (by rw [hx]; rfl)) hp' g' o')
        · refine T_lload_n (pc := 70) d_Reader_takeVarint_70 rfl ?_
          refine T_lret (pc := 71) d_Reader_takeVarint_71 rfl rfl (Nat.le_refl _) ?_
          exact hQ1 _ _ 1 (by rw [rv, if_pos (Int32.not_le.mp q67)]) g2 (fun q hq => (o45x2 q hq).trans (hO q hq))
set_option maxRecDepth 100000 in
set_option maxHeartbeats 4000000 in
theorem c_Reader_takeVarint {n a src cap p : Nat} {h : aH} {f : Bool} {l : List Int32} (hR : Rd h a src p f) (hb : By h src cap l) (hc : cap < 2 ^ 30) (hp : p ≤ l.length) : Con M_Reader_takeVarint 0 0 0 n [.ref a] h (fun r h' => (∀ q, q ≠ a → h' q = h q) ∧ match rv 10 0 0 (l.drop p) with | some (v, m) => r = some (.long v) ∧ Rd h' a src (p + m) f | none => r = some (.long 0) ∧ ∃ p', p' ≤ l.length ∧ Rd h' a src p' true) := by
  unfold Rd at *
  obtain ⟨fc, hB, hA, hl, hf⟩ := id hb
  have n1 : src ≠ a := fun e => by
    rw [e, hR] at hB
    cases hB
  have n2 : src + 1 ≠ a := fun e => by
    rw [e, hR] at hA
    cases hA
  refine Con.of rfl (Nat.le_of_ble_eq_true rfl) ?_
  refine T_lconst (v := 0) (pc := 0) d_Reader_takeVarint_0 rfl ?_
  refine T_lstore_n (pc := 1) d_Reader_takeVarint_1 rfl (Nat.le_of_ble_eq_true rfl) rfl ?_
  refine T_iconst (v := 0) (pc := 2) d_Reader_takeVarint_2 rfl ?_
  refine T_istore_n (pc := 3) d_Reader_takeVarint_3 rfl (Nat.le_of_ble_eq_true rfl) rfl ?_
  exact c_Reader_takeVarint_loop hc n1 n2 10 0 p 0 h rfl hp hR hb (fun _ _ => rfl) (fun h' v m hx g' o' => ⟨o', by rw [hx]; exact ⟨rfl, g'⟩⟩) (fun h' p' hx hp' g' o' => ⟨o', by rw [hx]; exact ⟨rfl, p', hp', g'⟩⟩)
