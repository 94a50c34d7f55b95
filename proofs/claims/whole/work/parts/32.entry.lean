/-! OnceWire$TaggedFormat.readEntry, read. -/
def stv (ns : List Sf) (vs : List (List Int32)) (i : Nat) (x : Int32) : Option (List (List Int32)) := match ns[i]?, vs[i]? with
  | some t, some w => if t.2.2 then (if w.length < 4 then some (vs.set i (w ++ [x])) else none) else some (vs.set i [x])
  | _, _ => none
def ent2 (ns : List Sf) (vs : List (List Int32)) (kk : Nat) (pl : Int64) : Option (List (List Int32)) := match ixF (nI (kk / 8)) ns 0 with
  | none => some vs
  | some i => match ns[i]? with
    | none => some vs
    | some t => if keyN t = kk then stv ns vs i (iop t.2.1 pl) else some vs
def ent (ns : List Sf) (vs : List (List Int32)) (r : List Int32) : Option (List (List Int32) × Nat) := match rv 10 0 0 r with
  | none => none
  | some (key, m1) => if key < 8 ∨ 4294967295 < key then none else match pay (key.toInt.toNat % 8) (r.drop m1) with
    | none => none
    | some (pl, m2) => (ent2 ns vs key.toInt.toNat pl).map (fun z => (z, m1 + m2))
theorem ixF_get (x : Int32) : ∀ (ts : List Sf) (i j : Nat), ixF x ts i = some j → ∃ t, ts[j - i]? = some t ∧ nI t.1 = x
  | [], i, j, h => by cases h
  | t :: ts, i, j, h => by
    unfold ixF at h
    split at h
    · rename_i e
      cases h
      exact ⟨t, by simp, e⟩
    · obtain ⟨t', h1, h2⟩ := ixF_get x ts (i + 1) j h
      have := ixF_ge x ts (i + 1) j h
      refine ⟨t', ?_, h2⟩
      rw [show j - i = (j - (i + 1)) + 1 by omega]
      simpa using h1
theorem land7 {m : Nat} (hm : m < 2 ^ 62) : lN m &&& 7 = lN (m % 8) := wb_mask (k := 3) (by omega) (by decide)
theorem lush3 {m : Nat} (hm : m < 2 ^ 62) : ((lN m).toUInt64 >>> ((3 : Int32).toInt64.toUInt64 &&& Int64.toUInt64 63)).toInt64 = lN (m / 8) := wb_shr (k := 3) (by omega) (by decide)
set_option maxRecDepth 100000 in
set_option maxHeartbeats 4000000 in
theorem c_TaggedFormat_readEntry {n fm v sa rd src cap : Nat} {ns : List Sf} {l : List Int32} (hc : cap < 2 ^ 30) (d1 : sa + 4 < v) (d2 : v + 2 < src) (d3 : src + 1 < rd) (d4 : fm < v ∨ rd < fm) {p : Nat} {h : aH} {vs : List (List Int32)} (hF : h fm = some (.inr (7, [.ref sa]))) (hs : Sc h sa ns) (hv : Va h v sa ns vs) (hR : Rd h rd src p false) (hb : By h src cap l) (hp : p ≤ l.length) : Con M_TaggedFormat_readEntry 2 0 0 n [.ref fm, .ref rd, .ref v] h (fun r h' => (∀ q, q ≠ v + 1 → q ≠ v + 2 → q ≠ rd → h' q = h q) ∧ match ent ns vs (l.drop p) with | some (vs', m) => r = some (.int 1) ∧ p + m ≤ l.length ∧ Rd h' rd src (p + m) false ∧ Va h' v sa ns vs' | none => r = some (.int 0) ∧ ∃ vs' p' f', Va h' v sa ns vs' ∧ Rd h' rd src p' f') := by
  have hbl := hb.le
  have e3 : (l.drop p).length = l.length - p := List.length_drop
  refine Con.of rfl (Nat.le_of_ble_eq_true rfl) ?_
  refine T_aload_n (pc := 0) d_TaggedFormat_readEntry_0 rfl ?_
  refine T_ivV (pc := 1) d_TaggedFormat_readEntry_1 sI_TaggedFormat_83 (c_Reader_takeVarint hR hb hc hp) hR rfl rfl ⟨(Nat.le_of_ble_eq_true rfl), (Nat.le_of_ble_eq_true rfl)⟩ ⟨(Nat.le_of_ble_eq_true rfl), (Nat.le_of_ble_eq_true rfl)⟩ (Nat.le_of_ble_eq_true rfl) (fun r1 h1 q1 => ?_)
  obtain ⟨o1, q1⟩ := q1
  cases hz : rv 10 0 0 (l.drop p) with
  | none =>
    rw [hz] at q1
    obtain ⟨rfl, p1, hp1, hR1⟩ := q1
    refine T_lstore_n (pc := 4) d_TaggedFormat_readEntry_4 rfl (Nat.le_of_ble_eq_true rfl) rfl ?_
    refine T_aload_n (pc := 5) d_TaggedFormat_readEntry_5 rfl ?_
    refine T_get (pc := 6) d_TaggedFormat_readEntry_6 sF_TaggedFormat_87_Reader hR1 rfl ?_
    refine T_if_ne (tgt := 28) (pc := 9) d_TaggedFormat_readEntry_9 (by decide) (fun q9 => ?_) (fun q9 => ?_)
    · refine T_iconst (v := 0) (pc := 28) d_TaggedFormat_readEntry_28 rfl ?_
      refine T_zret (pc := 29) d_TaggedFormat_readEntry_29 rfl (by decide) rfl (Nat.le_refl _) ?_
      refine ⟨fun q _ _ z => o1 q z, ?_⟩
      rw [ent, hz]
      exact ⟨rfl, vs, p1, true, hv.same (fun q z1 z2 => o1 q (by omega)), hR1⟩
    · exact absurd q9 (by decide)
  | some z =>
    obtain ⟨key, m1⟩ := z
    rw [hz] at q1
    obtain ⟨rfl, hR1⟩ := q1
    have hm1 := rv_le _ _ _ _ _ _ hz
    have hs1 := hs.same (h' := h1) (fun q z1 z2 => o1 q (by omega))
    have hv1 := hv.same (h' := h1) (fun q z1 z2 => o1 q (by omega))
    have hF1 := (o1 fm (by omega)).trans hF
    have hb1 := hb.same (o1 src (by omega)) (o1 (src + 1) (by omega))
    have he0 : ent ns vs (l.drop p) = if key < 8 ∨ 4294967295 < key then none else match pay (key.toInt.toNat % 8) (l.drop (p + m1)) with
        | none => none
        | some (pl, m2) => (ent2 ns vs key.toInt.toNat pl).map (fun z => (z, m1 + m2)) := by
      rw [ent, hz, show l.drop (p + m1) = (l.drop p).drop m1 by rw [List.drop_drop]]
    refine T_lstore_n (pc := 4) d_TaggedFormat_readEntry_4 rfl (Nat.le_of_ble_eq_true rfl) rfl ?_
    refine T_aload_n (pc := 5) d_TaggedFormat_readEntry_5 rfl ?_
    refine T_get (pc := 6) d_TaggedFormat_readEntry_6 sF_TaggedFormat_87_Reader hR1 rfl ?_
    refine T_if_ne (tgt := 28) (pc := 9) d_TaggedFormat_readEntry_9 (by decide) (fun q9 => ?_) (fun q9 => ?_)
    · refine T_iconst (v := 0) (pc := 28) d_TaggedFormat_readEntry_28 rfl ?_
      refine T_zret (pc := 29) d_TaggedFormat_readEntry_29 rfl (by decide) rfl (Nat.le_refl _) ?_
      first
        | exact absurd (show bI false = 0 from rfl) q9
        | (refine ⟨fun q _ _ z => o1 q z, ?_⟩
           rw [he0, if_pos (Or.inl ((lg_cmp_lt _ _).mp q17))]
           exact ⟨rfl, vs, _, false, hv1, hR1⟩)
        | (refine ⟨fun q _ _ z => o1 q z, ?_⟩
           rw [he0, if_pos (Or.inr (Int64.not_le.mp (fun q => q25 ((lg_cmp_le _ _).mpr q))))]
           exact ⟨rfl, vs, _, false, hv1, hR1⟩)
    · refine T_lload_n (pc := 12) d_TaggedFormat_readEntry_12 rfl ?_
      refine T_ldc2 (pc := 13) d_TaggedFormat_readEntry_13 (Ws_at (i := 7) (k := 50) rfl rfl) ?_
      refine T_lcmp (pc := 16) d_TaggedFormat_readEntry_16 ?_
      refine T_if_lt (tgt := 28) (pc := 17) d_TaggedFormat_readEntry_17 (by decide) (fun q17 => ?_) (fun q17 => ?_)
      · refine T_iconst (v := 0) (pc := 28) d_TaggedFormat_readEntry_28 rfl ?_
        refine T_zret (pc := 29) d_TaggedFormat_readEntry_29 rfl (by decide) rfl (Nat.le_refl _) ?_
        first
          | exact absurd (show bI false = 0 from rfl) q9
          | (refine ⟨fun q _ _ z => o1 q z, ?_⟩
             rw [he0, if_pos (Or.inl ((lg_cmp_lt _ _).mp q17))]
             exact ⟨rfl, vs, _, false, hv1, hR1⟩)
          | (refine ⟨fun q _ _ z => o1 q z, ?_⟩
             rw [he0, if_pos (Or.inr (Int64.not_le.mp (fun q => q25 ((lg_cmp_le _ _).mpr q))))]
             exact ⟨rfl, vs, _, false, hv1, hR1⟩)
      · refine T_lload_n (pc := 20) d_TaggedFormat_readEntry_20 rfl ?_
        refine T_ldc2 (pc := 21) d_TaggedFormat_readEntry_21 (Ws_at (i := 7) (k := 40) rfl rfl) ?_
        refine T_lcmp (pc := 24) d_TaggedFormat_readEntry_24 ?_
        refine T_if_le (tgt := 30) (pc := 25) d_TaggedFormat_readEntry_25 (by decide) (fun q25 => ?_) (fun q25 => ?_)
        · have hk8 : ¬ key < 8 := fun q => q17 ((lg_cmp_lt _ _).mpr q)
          have hkm : ¬ 4294967295 < key := fun q => absurd ((lg_cmp_le _ _).mp q25) (Int64.not_le.mpr q)
          obtain ⟨kk, hkk0, rfl⟩ := pk_lOf (x := key) (fun q => hk8 (Int64.lt_trans q (by decide)))
          have hkk : kk ≤ 4294967295 := by
            have := mt (pk_lLT (a := 4294967295) (b := kk) (by decide) hkk0).mpr hkm
            omega
          have e9 : (lN kk).toInt.toNat = kk := by rw [pk_lT hkk0]; omega
          rw [if_neg (fun q => q.elim hk8 hkm), e9] at he0
          refine T_aload_n (pc := 30) d_TaggedFormat_readEntry_30 rfl ?_
          refine T_lload_n (pc := 31) d_TaggedFormat_readEntry_31 rfl ?_
          refine T_ldc2 (pc := 32) d_TaggedFormat_readEntry_32 (Ws_at (i := 7) (k := 51) rfl rfl) ?_
          refine T_land (pc := 35) d_TaggedFormat_readEntry_35 ?_
          rw [land7 (by omega)]
          refine T_l2i (pc := 36) d_TaggedFormat_readEntry_36 ?_
          rw [lN_i]
          refine T_ivS (pc := 37) d_TaggedFormat_readEntry_37 sI_TaggedFormat_95 (c_TaggedFormat_takePayload (Nat.mod_lt kk (by decide)) hc d3 hR1 hb1 (by omega)) rfl rfl ⟨(Nat.le_of_ble_eq_true rfl), (Nat.le_of_ble_eq_true rfl)⟩ ⟨(Nat.le_of_ble_eq_true rfl), (Nat.le_of_ble_eq_true rfl)⟩ (Nat.le_of_ble_eq_true rfl) (fun r2 h2 q2 => ?_)
          obtain ⟨o2, q2⟩ := q2
          cases hy : pay (kk % 8) (l.drop (p + m1)) with
          | none =>
            rw [hy] at q2 he0
            obtain ⟨⟨v2, rfl⟩, p2, hp2, hR2⟩ := q2
            refine T_lstore (pc := 40) d_TaggedFormat_readEntry_40 (Nat.le_of_ble_eq_true rfl) rfl ?_
            refine T_aload_n (pc := 42) d_TaggedFormat_readEntry_42 rfl ?_
            refine T_get (pc := 43) d_TaggedFormat_readEntry_43 sF_TaggedFormat_87_Reader hR2 rfl ?_
            refine T_if_eq (tgt := 51) (pc := 46) d_TaggedFormat_readEntry_46 (by decide) (fun q46 => ?_) (fun q46 => ?_)
            · exact absurd q46 (by decide)
            · refine T_iconst (v := 0) (pc := 49) d_TaggedFormat_readEntry_49 rfl ?_
              refine T_zret (pc := 50) d_TaggedFormat_readEntry_50 rfl (by decide) rfl (Nat.le_refl _) ?_
              refine ⟨fun q _ _ z => (o2 q z).trans (o1 q z), ?_⟩
              rw [he0]
              exact ⟨rfl, vs, p2, true, hv1.same (fun q z1 z2 => o2 q (by omega)), hR2⟩
          | some z =>
            obtain ⟨pl, m2⟩ := z
            rw [hy] at q2 he0
            obtain ⟨rfl, hm2, hR2⟩ := q2
            have hs2 := hs1.same (h' := h2) (fun q z1 z2 => o2 q (by omega))
            have hv2 := hv1.same (h' := h2) (fun q z1 z2 => o2 q (by omega))
            have hF2 := (o2 fm (by omega)).trans hF1
            have he1 : ent ns vs (l.drop p) = (ent2 ns vs kk pl).map (fun z => (z, m1 + m2)) := he0
            refine T_lstore (pc := 40) d_TaggedFormat_readEntry_40 (Nat.le_of_ble_eq_true rfl) rfl ?_
            refine T_aload_n (pc := 42) d_TaggedFormat_readEntry_42 rfl ?_
            refine T_get (pc := 43) d_TaggedFormat_readEntry_43 sF_TaggedFormat_87_Reader hR2 rfl ?_
            refine T_if_eq (tgt := 51) (pc := 46) d_TaggedFormat_readEntry_46 (by decide) (fun q46 => ?_) (fun q46 => ?_)
            · refine T_aload_n (pc := 51) d_TaggedFormat_readEntry_51 rfl ?_
              refine T_get (pc := 52) d_TaggedFormat_readEntry_52 sF_TaggedFormat_9_TaggedFormat hF2 rfl ?_
              refine T_lload_n (pc := 55) d_TaggedFormat_readEntry_55 rfl ?_
              refine T_iconst (v := 3) (pc := 56) d_TaggedFormat_readEntry_56 rfl ?_
              refine T_lushr (pc := 57) d_TaggedFormat_readEntry_57 ?_
              rw [lush3 (by omega)]
              refine T_l2i (pc := 58) d_TaggedFormat_readEntry_58 ?_
              rw [lN_i]
              refine T_ivV (pc := 59) d_TaggedFormat_readEntry_59 sI_TaggedFormat_99 (c_Schema_indexOf hs2) hs2.obj rfl rfl ⟨(Nat.le_of_ble_eq_true rfl), (Nat.le_of_ble_eq_true rfl)⟩ ⟨(Nat.le_of_ble_eq_true rfl), (Nat.le_of_ble_eq_true rfl)⟩ (Nat.le_of_ble_eq_true rfl) (fun r3 h3 q3 => ?_)
              obtain ⟨rfl, e3⟩ := q3
              rw [e3]
              cases hi : ixF (nI (kk / 8)) ns 0 with
              | none =>
                have he2 : ent2 ns vs kk pl = some vs := by rw [ent2, hi]
                refine T_istore (pc := 62) d_TaggedFormat_readEntry_62 (Nat.le_of_ble_eq_true rfl) rfl ?_
                refine T_iload (pc := 64) d_TaggedFormat_readEntry_64 rfl ?_
                refine T_iconst (v := -1) (pc := 66) d_TaggedFormat_readEntry_66 rfl ?_
                refine T_icmp_eq (tgt := 85) (pc := 67) d_TaggedFormat_readEntry_67 (by decide) (fun q67 => ?_) (fun q67 => ?_)
                · refine T_iconst (v := 1) (pc := 85) d_TaggedFormat_readEntry_85 rfl ?_
                  refine T_zret (pc := 86) d_TaggedFormat_readEntry_86 rfl (by decide) rfl (Nat.le_refl _) ?_
                  refine ⟨fun q _ _ z => (o2 q z).trans (o1 q z), ?_⟩
                  rw [he1, he2]
                  exact ⟨rfl, by omega, by rw [← Nat.add_assoc]; exact hR2, hv2⟩
                · exact absurd (show oI none = -1 from rfl) q67
              | some i =>
                obtain ⟨t, ht, _⟩ := ixF_get _ _ _ _ hi
                rw [Nat.sub_zero] at ht
                have hil := ge_lt ht
                have hle := hs.le
                have hrg := hs.rng ht
                have hkey := keyN_lt hrg.2.1
                show Tri _ _ _ _ _ (Value.int (nI i) :: _) _ _ _ _
                refine T_istore (pc := 62) d_TaggedFormat_readEntry_62 (Nat.le_of_ble_eq_true rfl) rfl ?_
                refine T_iload (pc := 64) d_TaggedFormat_readEntry_64 rfl ?_
                refine T_iconst (v := -1) (pc := 66) d_TaggedFormat_readEntry_66 rfl ?_
                refine T_icmp_eq (tgt := 85) (pc := 67) d_TaggedFormat_readEntry_67 (by decide) (fun q67 => ?_) (fun q67 => ?_)
                · exact absurd q67 (fun e => absurd (show nI i < 0 by rw [e]; decide) (nI_pos (by omega)))
                · refine T_aload_n (pc := 70) d_TaggedFormat_readEntry_70 rfl ?_
                  refine T_get (pc := 71) d_TaggedFormat_readEntry_71 sF_TaggedFormat_9_TaggedFormat hF2 rfl ?_
                  refine T_iload (pc := 74) d_TaggedFormat_readEntry_74 rfl ?_
                  refine T_ivV (pc := 76) d_TaggedFormat_readEntry_76 sI_TaggedFormat_35 (c_Schema_keyOf hs2 ht) hs2.obj rfl rfl ⟨(Nat.le_of_ble_eq_true rfl), (Nat.le_of_ble_eq_true rfl)⟩ ⟨(Nat.le_of_ble_eq_true rfl), (Nat.le_of_ble_eq_true rfl)⟩ (Nat.le_of_ble_eq_true rfl) (fun r4 h4 q4 => ?_)
                  obtain ⟨rfl, e4⟩ := q4
                  rw [e4]
                  refine T_i2l (pc := 79) d_TaggedFormat_readEntry_79 ?_
                  rw [nI_l (by omega)]
                  refine T_lload_n (pc := 80) d_TaggedFormat_readEntry_80 rfl ?_
                  refine T_lcmp (pc := 81) d_TaggedFormat_readEntry_81 ?_
                  refine T_if_eq (tgt := 87) (pc := 82) d_TaggedFormat_readEntry_82 (by decide) (fun q82 => ?_) (fun q82 => ?_)
                  · have hkk2 : keyN t = kk := (pk_lEQ (by omega) hkk0).mp ((lg_cmp_eq _ _).mp q82)
                    obtain ⟨w, hw⟩ : ∃ w, vs[i]? = some w := ⟨vs[i]'(by have := hv.1; omega), List.getElem?_eq_getElem _⟩
                    have he2 : ent2 ns vs kk pl = stv ns vs i (iop t.2.1 pl) := by rw [ent2, hi]; simp only [ht, hkk2, if_true]
                    have he3 : stv ns vs i (iop t.2.1 pl) = if t.2.2 then (if w.length < 4 then some (vs.set i (w ++ [iop t.2.1 pl])) else none) else some (vs.set i [iop t.2.1 pl]) := by
                      rw [stv, ht, hw]
                    refine T_aload_n (pc := 87) d_TaggedFormat_readEntry_87 rfl ?_
                    refine T_iload (pc := 88) d_TaggedFormat_readEntry_88 rfl ?_
                    refine T_aload_n (pc := 90) d_TaggedFormat_readEntry_90 rfl ?_
                    refine T_get (pc := 91) d_TaggedFormat_readEntry_91 sF_TaggedFormat_9_TaggedFormat hF2 rfl ?_
                    refine T_iload (pc := 94) d_TaggedFormat_readEntry_94 rfl ?_
                    refine T_ivV (pc := 96) d_TaggedFormat_readEntry_96 sI_TaggedFormat_42 (c_Schema_kindOf hs2 ht) hs2.obj rfl rfl ⟨(Nat.le_of_ble_eq_true rfl), (Nat.le_of_ble_eq_true rfl)⟩ ⟨(Nat.le_of_ble_eq_true rfl), (Nat.le_of_ble_eq_true rfl)⟩ (Nat.le_of_ble_eq_true rfl) (fun r5 h5 q5 => ?_)
                    obtain ⟨rfl, e5⟩ := q5
                    rw [e5]
                    refine T_lload (pc := 99) d_TaggedFormat_readEntry_99 rfl ?_
                    refine T_ivS (pc := 101) d_TaggedFormat_readEntry_101 sI_TaggedFormat_102 (c_TaggedFormat_intOfPayload hrg.2.2) rfl rfl ⟨(Nat.le_of_ble_eq_true rfl), (Nat.le_of_ble_eq_true rfl)⟩ ⟨(Nat.le_of_ble_eq_true rfl), (Nat.le_of_ble_eq_true rfl)⟩ (Nat.le_of_ble_eq_true rfl) (fun r6 h6 q6 => ?_)
                    obtain ⟨rfl, e6⟩ := q6
                    rw [e6]
                    refine T_ivV (pc := 104) d_TaggedFormat_readEntry_104 sI_TaggedFormat_106 (c_Value_store hs2 hv2 ht hw d1) hv2.obj rfl rfl ⟨(Nat.le_of_ble_eq_true rfl), (Nat.le_of_ble_eq_true rfl)⟩ ⟨(Nat.le_of_ble_eq_true rfl), (Nat.le_of_ble_eq_true rfl)⟩ (Nat.le_of_ble_eq_true rfl) (fun r7 h7 q7 => ?_)
                    obtain ⟨q7, o7⟩ := q7
                    have hR7 := (o7 rd (by omega) (by omega)).trans hR2
                    have o8 : ∀ q, q ≠ v + 1 → q ≠ v + 2 → q ≠ rd → h7 q = h q := fun q z1 z2 z3 => (o7 q z1 z2).trans ((o2 q z3).trans (o1 q z3))
                    by_cases hbb : t.2.2 = true
                    · rw [hbb, if_pos rfl] at q7 he3
                      by_cases hw4 : w.length < 4
                      · rw [if_pos hw4] at q7 he3
                        obtain ⟨rfl, hv7⟩ := q7
                        refine T_zret (pc := 107) d_TaggedFormat_readEntry_107 rfl (by decide) rfl (Nat.le_refl _) ?_
                        refine ⟨o8, ?_⟩
                        rw [he1, he2, he3]
                        exact ⟨rfl, by omega, by rw [← Nat.add_assoc]; exact hR7, hv7⟩
                      · rw [if_neg hw4] at q7 he3
                        obtain ⟨rfl, e7⟩ := q7
                        refine T_zret (pc := 107) d_TaggedFormat_readEntry_107 rfl (by decide) rfl (Nat.le_refl _) ?_
                        refine ⟨o8, ?_⟩
                        rw [he1, he2, he3]
                        exact ⟨rfl, vs, _, false, by rw [e7]; exact hv2, hR7⟩
                    · have hbf : t.2.2 = false := by cases hq : t.2.2 <;> simp_all
                      rw [hbf, if_neg (by decide)] at q7 he3
                      obtain ⟨rfl, hv7⟩ := q7
                      refine T_zret (pc := 107) d_TaggedFormat_readEntry_107 rfl (by decide) rfl (Nat.le_refl _) ?_
                      refine ⟨o8, ?_⟩
                      rw [he1, he2, he3]
                      exact ⟨rfl, by omega, by rw [← Nat.add_assoc]; exact hR7, hv7⟩
                  · have he2 : ent2 ns vs kk pl = some vs := by rw [ent2, hi]; simp only [ht]; rw [if_neg (fun e => q82 ((lg_cmp_eq _ _).mpr (by rw [e])))]
                    refine T_iconst (v := 1) (pc := 85) d_TaggedFormat_readEntry_85 rfl ?_
                    refine T_zret (pc := 86) d_TaggedFormat_readEntry_86 rfl (by decide) rfl (Nat.le_refl _) ?_
                    refine ⟨fun q _ _ z => (o2 q z).trans (o1 q z), ?_⟩
                    rw [he1, he2]
                    exact ⟨rfl, by omega, by rw [← Nat.add_assoc]; exact hR2, hv2⟩
            · exact absurd (show bI false = 0 from rfl) q46
        · refine T_iconst (v := 0) (pc := 28) d_TaggedFormat_readEntry_28 rfl ?_
          refine T_zret (pc := 29) d_TaggedFormat_readEntry_29 rfl (by decide) rfl (Nat.le_refl _) ?_
          first
            | exact absurd (show bI false = 0 from rfl) q9
            | (refine ⟨fun q _ _ z => o1 q z, ?_⟩
               rw [he0, if_pos (Or.inl ((lg_cmp_lt _ _).mp q17))]
               exact ⟨rfl, vs, _, false, hv1, hR1⟩)
            | (refine ⟨fun q _ _ z => o1 q z, ?_⟩
               rw [he0, if_pos (Or.inr (Int64.not_le.mp (fun q => q25 ((lg_cmp_le _ _).mpr q))))]
               exact ⟨rfl, vs, _, false, hv1, hR1⟩)
