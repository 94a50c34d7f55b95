/-! OnceWire$Client.receive. -/
abbrev Cs : Type := Int32 × List (Int32 × Int32) × List Pd
def cliG (cs : List (Int32 × Int32)) (ps : List Pd) (l : List Int32) : Cs := match ppF (wat l 0) ps 0 with
  | none => (5, cs, ps)
  | some k => (4, cs.set (ps.getD k (0, 0, [])).1.toNatClampNeg (wat l 8, if wat l 8 = 0 then wat l 12 else 0), ps.eraseIdx k)
def cliF (cs : List (Int32 × Int32)) (ps : List Pd) (l2 : List Int32) : Cs := match uw l2.length l2 with
  | none => (-2, cs, ps)
  | some l => if l.length < 12 then (-2, cs, ps) else if wat l 4 ≠ 1 then (-3, cs, ps) else if wat l 8 < 0 ∨ 2 < wat l 8 then (-2, cs, ps) else if l.length ≠ (if wat l 8 = 0 then 16 else 12) then (-2, cs, ps) else cliG cs ps l
theorem ppF_get (x : Int32) : ∀ (ts : List Pd) (i j : Nat), ppF x ts i = some j → i ≤ j ∧ ∃ m, ts[j - i]? = some m ∧ m.1 = x
  | [], i, j, h => by cases h
  | t :: ts, i, j, h => by
    unfold ppF at h
    split at h
    · rename_i e
      cases h
      exact ⟨Nat.le_refl _, t, by simp, e⟩
    · obtain ⟨h0, t', h1, h2⟩ := ppF_get x ts (i + 1) j h
      refine ⟨by omega, t', ?_, h2⟩
      rw [show j - i = (j - (i + 1)) + 1 by omega]
      simpa using h1
def cliQ (c w fm : Nat) (h : aH) (X : Cs) : aQ := fun r h' => r = some (.int X.1) ∧ (∃ ads', Cl h' c w fm X.2.1 X.2.2 ads') ∧ ∀ q, q < c ∨ c + 23 < q → h' q = h q
set_option maxRecDepth 100000 in
set_option maxHeartbeats 4000000 in
theorem c_Client_receive {n c w fm : Nat} {cs : List (Int32 × Int32)} {ps : List Pd} {ads : List Nat} {h : aH} (hv : Cl h c w fm cs ps ads) {a2 cap2 : Nat} {l2 : List Int32} (hok : ∀ m, m ∈ ps → ∃ j, j < cs.length ∧ m.1 = nI j) (hb2 : By h a2 cap2 l2) (hc2 : cap2 < 2 ^ 29) (hne : a2 ≠ c + 1) (hr : l2.length ≤ 200) : Con M_Client_receive 3 0 0 n [.ref c, .ref a2] h (cliQ c w fm h (cliF cs ps l2)) := by
  obtain ⟨lr, hbr⟩ := hv.2.2.2.2
  refine Con.of rfl (Nat.le_of_ble_eq_true rfl) ?_
  refine T_aload_n (pc := 0) d_Client_receive_0 rfl ?_
  refine T_aload_n (pc := 1) d_Client_receive_1 rfl ?_
  refine T_get (pc := 2) d_Client_receive_2 sF_Client_14_Client hv.obj rfl ?_
  refine T_ivS (pc := 5) d_Client_receive_5 sI_Client_76 (c_Fragments_unwrap hbr hb2 (by decide) hc2 hne hr) rfl rfl ⟨(Nat.le_of_ble_eq_true rfl), (Nat.le_of_ble_eq_true rfl)⟩ ⟨(Nat.le_of_ble_eq_true rfl), (Nat.le_of_ble_eq_true rfl)⟩ (Nat.le_of_ble_eq_true rfl) (fun r1 h1 q1 => ?_)
  obtain ⟨o1, q1⟩ := q1
  cases hu : uw l2.length l2 with
  | none =>
    rw [hu] at q1
    obtain ⟨rfl, hl1⟩ := q1
    have hv1 := hv.rec o1 hl1
    have hX : cliF cs ps l2 = (-2, cs, ps) := by rw [cliF, hu]
    refine T_if_eq (tgt := 23) (pc := 8) d_Client_receive_8 (by decide) (fun q8 => ?_) (fun q8 => ?_)
    · refine T_bipush (v := -2) (pc := 23) d_Client_receive_23 rfl ?_
      refine T_iret (pc := 25) d_Client_receive_25 rfl rfl (Nat.le_refl _) ?_
      unfold cliQ
      rw [hX]
      exact ⟨rfl, ⟨ads, hv1⟩, fun q z1 => o1 q (by omega) (by omega)⟩
    · exact absurd rfl q8
  | some l =>
    rw [hu] at q1
    obtain ⟨rfl, hb1⟩ := q1
    have hv1 := hv.rec o1 ⟨l, hb1⟩
    have hle1 := hb1.le
    have hX0 : cliF cs ps l2 = if l.length < 12 then (-2, cs, ps) else if wat l 4 ≠ 1 then (-3, cs, ps) else if wat l 8 < 0 ∨ 2 < wat l 8 then (-2, cs, ps) else if l.length ≠ (if wat l 8 = 0 then 16 else 12) then (-2, cs, ps) else cliG cs ps l := by rw [cliF, hu]
    refine T_if_eq (tgt := 23) (pc := 8) d_Client_receive_8 (by decide) (fun q8 => ?_) (fun q8 => ?_)
    · exact absurd q8 (by decide)
    · refine T_aload_n (pc := 11) d_Client_receive_11 rfl ?_
      refine T_get (pc := 12) d_Client_receive_12 sF_Client_14_Client hv1.obj rfl ?_
      refine T_get (pc := 15) d_Client_receive_15 sF_Client_80_Bytes hb1.obj rfl ?_
      refine T_bipush (v := 12) (pc := 18) d_Client_receive_18 rfl ?_
      refine T_icmp_ge (tgt := 26) (pc := 20) d_Client_receive_20 (by decide) (fun q20 => ?_) (fun q20 => ?_)
      · have hl12 : 12 ≤ l.length := (nI_leI (a := 12) (b := l.length) (by decide) (by omega)).mp q20
        rw [if_neg (by omega)] at hX0
        refine T_aload_n (pc := 26) d_Client_receive_26 rfl ?_
        refine T_get (pc := 27) d_Client_receive_27 sF_Client_14_Client hv1.obj rfl ?_
        refine T_iconst (v := 4) (pc := 30) d_Client_receive_30 rfl ?_
        refine T_ivV (pc := 31) d_Client_receive_31 sI_Client_83 (c_Bytes_wordAt (k := 4) hb1 (by decide) (by omega)) hb1.obj rfl rfl ⟨(Nat.le_of_ble_eq_true rfl), (Nat.le_of_ble_eq_true rfl)⟩ ⟨(Nat.le_of_ble_eq_true rfl), (Nat.le_of_ble_eq_true rfl)⟩ (Nat.le_of_ble_eq_true rfl) (fun r2 h2 q2 => ?_)
        obtain ⟨rfl, e2⟩ := q2
        rw [e2]
        refine T_iconst (v := 1) (pc := 34) d_Client_receive_34 rfl ?_
        refine T_icmp_eq (tgt := 41) (pc := 35) d_Client_receive_35 (by decide) (fun q35 => ?_) (fun q35 => ?_)
        · rw [if_neg (fun z => z q35)] at hX0
          refine T_aload_n (pc := 41) d_Client_receive_41 rfl ?_
          refine T_get (pc := 42) d_Client_receive_42 sF_Client_14_Client hv1.obj rfl ?_
          refine T_bipush (v := 8) (pc := 45) d_Client_receive_45 rfl ?_
          refine T_ivV (pc := 47) d_Client_receive_47 sI_Client_83 (c_Bytes_wordAt (k := 8) hb1 (by decide) (by omega)) hb1.obj rfl rfl ⟨(Nat.le_of_ble_eq_true rfl), (Nat.le_of_ble_eq_true rfl)⟩ ⟨(Nat.le_of_ble_eq_true rfl), (Nat.le_of_ble_eq_true rfl)⟩ (Nat.le_of_ble_eq_true rfl) (fun r3 h3 q3 => ?_)
          obtain ⟨rfl, e3⟩ := q3
          rw [e3]
          refine T_istore_n (pc := 50) d_Client_receive_50 rfl (Nat.le_of_ble_eq_true rfl) rfl ?_
          refine T_iload_n (pc := 51) d_Client_receive_51 rfl ?_
          refine T_if_lt (tgt := 60) (pc := 52) d_Client_receive_52 (by decide) (fun q52 => ?_) (fun q52 => ?_)
          · have hX : cliF cs ps l2 = (-2, cs, ps) := by rw [hX0, if_pos (Or.inl q52)]
            refine T_bipush (v := -2) (pc := 60) d_Client_receive_60 rfl ?_
            refine T_iret (pc := 62) d_Client_receive_62 rfl rfl (Nat.le_refl _) ?_
            unfold cliQ
            rw [hX]
            exact ⟨rfl, ⟨ads, hv1⟩, fun q z1 => o1 q (by omega) (by omega)⟩
          · refine T_iload_n (pc := 55) d_Client_receive_55 rfl ?_
            refine T_iconst (v := 2) (pc := 56) d_Client_receive_56 rfl ?_
            refine T_icmp_le (tgt := 63) (pc := 57) d_Client_receive_57 (by decide) (fun q57 => ?_) (fun q57 => ?_)
            · rw [if_neg (fun z => z.elim q52 (fun z => absurd q57 (Int32.not_le.mpr z)))] at hX0
              refine T_aload_n (pc := 63) d_Client_receive_63 rfl ?_
              refine T_get (pc := 64) d_Client_receive_64 sF_Client_14_Client hv1.obj rfl ?_
              refine T_get (pc := 67) d_Client_receive_67 sF_Client_80_Bytes hb1.obj rfl ?_
              refine T_iload_n (pc := 70) d_Client_receive_70 rfl ?_
              refine T_if_ne (tgt := 79) (pc := 71) d_Client_receive_71 (by decide) (fun q71 => ?_) (fun q71 => ?_)
              · refine T_bipush (v := 12) (pc := 79) d_Client_receive_79 rfl ?_
                refine T_icmp_eq (tgt := 87) (pc := 81) d_Client_receive_81 (by decide) (fun q81 => ?_) (fun q81 => ?_)
                · have hlen : l.length = (if wat l 8 = 0 then 16 else 12) := by
                    first
                      | (rw [if_neg q71]; exact (nI_eq (a := l.length) (b := 12) (by omega) (by decide)).mp q81)
                      | (rw [if_pos q71]; exact (nI_eq (a := l.length) (b := 16) (by omega) (by decide)).mp q81)
                  have hX : cliF cs ps l2 = cliG cs ps l := by rw [hX0, if_neg (fun z => z hlen)]
                  refine T_aload_n (pc := 87) d_Client_receive_87 rfl ?_
                  refine T_aload_n (pc := 88) d_Client_receive_88 rfl ?_
                  refine T_get (pc := 89) d_Client_receive_89 sF_Client_14_Client hv1.obj rfl ?_
                  refine T_iconst (v := 0) (pc := 92) d_Client_receive_92 rfl ?_
                  refine T_ivV (pc := 93) d_Client_receive_93 sI_Client_83 (c_Bytes_wordAt (k := 0) hb1 (by decide) (by omega)) hb1.obj rfl rfl ⟨(Nat.le_of_ble_eq_true rfl), (Nat.le_of_ble_eq_true rfl)⟩ ⟨(Nat.le_of_ble_eq_true rfl), (Nat.le_of_ble_eq_true rfl)⟩ (Nat.le_of_ble_eq_true rfl) (fun r4 h4 q4 => ?_)
                  obtain ⟨rfl, e4⟩ := q4
                  rw [e4]
                  refine T_ivV (pc := 96) d_Client_receive_96 sI_Client_87 (c_Client_pendingPlaceOf hv1) hv1.obj rfl rfl ⟨(Nat.le_of_ble_eq_true rfl), (Nat.le_of_ble_eq_true rfl)⟩ ⟨(Nat.le_of_ble_eq_true rfl), (Nat.le_of_ble_eq_true rfl)⟩ (Nat.le_of_ble_eq_true rfl) (fun r5 h5 q5 => ?_)
                  obtain ⟨rfl, e5⟩ := q5
                  rw [e5]
                  cases hi : ppF (wat l 0) ps 0 with
                  | none =>
                    have hX : cliF cs ps l2 = (5, cs, ps) := by rw [hX, cliG, hi]
                    refine T_istore_n (pc := 99) d_Client_receive_99 rfl (Nat.le_of_ble_eq_true rfl) rfl ?_
                    refine T_iload_n (pc := 100) d_Client_receive_100 rfl ?_
                    refine T_iconst (v := -1) (pc := 101) d_Client_receive_101 rfl ?_
                    refine T_icmp_ne (tgt := 107) (pc := 102) d_Client_receive_102 (by decide) (fun q102 => ?_) (fun q102 => ?_)
                    · exact absurd (show oI none = -1 from rfl) q102
                    · refine T_iconst (v := 5) (pc := 105) d_Client_receive_105 rfl ?_
                      refine T_iret (pc := 106) d_Client_receive_106 rfl rfl (Nat.le_refl _) ?_
                      unfold cliQ
                      rw [hX]
                      exact ⟨rfl, ⟨ads, hv1⟩, fun q z1 => o1 q (by omega) (by omega)⟩
                  | some k =>
                    obtain ⟨_, m, hm, hmx⟩ := ppF_get _ _ _ _ hi
                    rw [Nat.sub_zero] at hm
                    have hk : k < ps.length := (List.getElem?_eq_some_iff.mp hm).1
                    have hp8 := hv.1.2.1
                    have hal := hv.1.2.2.1
                    obtain ⟨j, hj, hmj⟩ := hok m (List.mem_of_getElem? hm)
                    obtain ⟨q0, hq0⟩ : ∃ q0, ads[k]? = some q0 := ⟨_, List.getElem?_eq_getElem (by omega)⟩
                    have hj2 : (ps.getD k (0, 0, [])).1.toNatClampNeg = j := by
                      have := hv.1.1
                      rw [List.getD_eq_getElem?_getD, hm]
                      show m.1.toNatClampNeg = j
                      rw [hmj]
                      exact nI_clamp (by omega)
                    have hX : cliF cs ps l2 = (4, cs.set j (wat l 8, if wat l 8 = 0 then wat l 12 else 0), ps.eraseIdx k) := by rw [hX, cliG, hi]; simp only [hj2]
                    show Tri _ _ _ _ _ (Value.int (nI k) :: _) _ _ _ _
                    refine T_istore_n (pc := 99) d_Client_receive_99 rfl (Nat.le_of_ble_eq_true rfl) rfl ?_
                    refine T_iload_n (pc := 100) d_Client_receive_100 rfl ?_
                    refine T_iconst (v := -1) (pc := 101) d_Client_receive_101 rfl ?_
                    refine T_icmp_ne (tgt := 107) (pc := 102) d_Client_receive_102 (by decide) (fun q102 => ?_) (fun q102 => ?_)
                    · refine T_aload_n (pc := 107) d_Client_receive_107 rfl ?_
                      refine T_iload_n (pc := 108) d_Client_receive_108 rfl ?_
                      refine T_iload_n (pc := 109) d_Client_receive_109 rfl ?_
                      refine T_iload_n (pc := 110) d_Client_receive_110 rfl ?_
                      refine T_if_ne (tgt := 126) (pc := 111) d_Client_receive_111 (by decide) (fun q111 => ?_) (fun q111 => ?_)
                      · refine T_iconst (v := 0) (pc := 126) d_Client_receive_126 rfl ?_
                        refine T_ivV (pc := 127) d_Client_receive_127 sI_Client_90 (c_Client_settle hv1 hm hq0 hmj hj) hv1.obj rfl rfl ⟨(Nat.le_of_ble_eq_true rfl), (Nat.le_of_ble_eq_true rfl)⟩ ⟨(Nat.le_of_ble_eq_true rfl), (Nat.le_of_ble_eq_true rfl)⟩ (Nat.le_of_ble_eq_true rfl) (fun r6 h6 q6 => ?_)
                        obtain ⟨rfl, hv6, o6⟩ := q6
                        refine T_iconst (v := 4) (pc := 130) d_Client_receive_130 rfl ?_
                        refine T_iret (pc := 131) d_Client_receive_131 rfl rfl (Nat.le_refl _) ?_
                        unfold cliQ
                        rw [hX]
                        refine ⟨rfl, ⟨ads.eraseIdx k ++ [q0], ?_⟩, fun q z1 => (o6 q z1).trans (o1 q (by omega) (by omega))⟩
                        show Cl _ c w fm (cs.set j (wat l 8, if wat l 8 = 0 then wat l 12 else 0)) (ps.eraseIdx k) _
                        first
                          | (rw [if_neg q111]; exact hv6)
                          | (rw [if_pos q111]; exact hv6)
                      · refine T_aload_n (pc := 114) d_Client_receive_114 rfl ?_
                        refine T_get (pc := 115) d_Client_receive_115 sF_Client_14_Client hv1.obj rfl ?_
                        refine T_bipush (v := 12) (pc := 118) d_Client_receive_118 rfl ?_
                        have hl16 : l.length = 16 := by rw [hlen, if_pos q111]
                        refine T_ivV (pc := 120) d_Client_receive_120 sI_Client_83 (c_Bytes_wordAt (k := 12) hb1 (by decide) (by omega)) hb1.obj rfl rfl ⟨(Nat.le_of_ble_eq_true rfl), (Nat.le_of_ble_eq_true rfl)⟩ ⟨(Nat.le_of_ble_eq_true rfl), (Nat.le_of_ble_eq_true rfl)⟩ (Nat.le_of_ble_eq_true rfl) (fun r7 h7 q7 => ?_)
                        obtain ⟨rfl, e7⟩ := q7
                        rw [e7]
                        refine T_goto (tgt := 127) (pc := 123) d_Client_receive_123 (by decide) ?_
                        refine T_ivV (pc := 127) d_Client_receive_127 sI_Client_90 (c_Client_settle hv1 hm hq0 hmj hj) hv1.obj rfl rfl ⟨(Nat.le_of_ble_eq_true rfl), (Nat.le_of_ble_eq_true rfl)⟩ ⟨(Nat.le_of_ble_eq_true rfl), (Nat.le_of_ble_eq_true rfl)⟩ (Nat.le_of_ble_eq_true rfl) (fun r6 h6 q6 => ?_)
                        obtain ⟨rfl, hv6, o6⟩ := q6
                        refine T_iconst (v := 4) (pc := 130) d_Client_receive_130 rfl ?_
                        refine T_iret (pc := 131) d_Client_receive_131 rfl rfl (Nat.le_refl _) ?_
                        unfold cliQ
                        rw [hX]
                        refine ⟨rfl, ⟨ads.eraseIdx k ++ [q0], ?_⟩, fun q z1 => (o6 q z1).trans (o1 q (by omega) (by omega))⟩
                        show Cl _ c w fm (cs.set j (wat l 8, if wat l 8 = 0 then wat l 12 else 0)) (ps.eraseIdx k) _
                        first
                          | (rw [if_neg q111]; exact hv6)
                          | (rw [if_pos q111]; exact hv6)
                    · exact absurd q102 (fun e => absurd (show nI k < 0 by rw [e]; decide) (nI_pos (by omega)))
                · have hX : cliF cs ps l2 = (-2, cs, ps) := by
                    rw [hX0, if_pos (fun z => ?_)]
                    first
                      | (rw [if_neg q71] at z; exact q81 (by rw [z]; rfl))
                      | (rw [if_pos q71] at z; exact q81 (by rw [z]; rfl))
                  refine T_bipush (v := -2) (pc := 84) d_Client_receive_84 rfl ?_
                  refine T_iret (pc := 86) d_Client_receive_86 rfl rfl (Nat.le_refl _) ?_
                  unfold cliQ
                  rw [hX]
                  exact ⟨rfl, ⟨ads, hv1⟩, fun q z1 => o1 q (by omega) (by omega)⟩
              · refine T_bipush (v := 16) (pc := 74) d_Client_receive_74 rfl ?_
                refine T_goto (tgt := 81) (pc := 76) d_Client_receive_76 (by decide) ?_
                refine T_icmp_eq (tgt := 87) (pc := 81) d_Client_receive_81 (by decide) (fun q81 => ?_) (fun q81 => ?_)
                · have hlen : l.length = (if wat l 8 = 0 then 16 else 12) := by
                    first
                      | (rw [if_neg q71]; exact (nI_eq (a := l.length) (b := 12) (by omega) (by decide)).mp q81)
                      | (rw [if_pos q71]; exact (nI_eq (a := l.length) (b := 16) (by omega) (by decide)).mp q81)
                  have hX : cliF cs ps l2 = cliG cs ps l := by rw [hX0, if_neg (fun z => z hlen)]
                  refine T_aload_n (pc := 87) d_Client_receive_87 rfl ?_
                  refine T_aload_n (pc := 88) d_Client_receive_88 rfl ?_
                  refine T_get (pc := 89) d_Client_receive_89 sF_Client_14_Client hv1.obj rfl ?_
                  refine T_iconst (v := 0) (pc := 92) d_Client_receive_92 rfl ?_
                  refine T_ivV (pc := 93) d_Client_receive_93 sI_Client_83 (c_Bytes_wordAt (k := 0) hb1 (by decide) (by omega)) hb1.obj rfl rfl ⟨(Nat.le_of_ble_eq_true rfl), (Nat.le_of_ble_eq_true rfl)⟩ ⟨(Nat.le_of_ble_eq_true rfl), (Nat.le_of_ble_eq_true rfl)⟩ (Nat.le_of_ble_eq_true rfl) (fun r4 h4 q4 => ?_)
                  obtain ⟨rfl, e4⟩ := q4
                  rw [e4]
                  refine T_ivV (pc := 96) d_Client_receive_96 sI_Client_87 (c_Client_pendingPlaceOf hv1) hv1.obj rfl rfl ⟨(Nat.le_of_ble_eq_true rfl), (Nat.le_of_ble_eq_true rfl)⟩ ⟨(Nat.le_of_ble_eq_true rfl), (Nat.le_of_ble_eq_true rfl)⟩ (Nat.le_of_ble_eq_true rfl) (fun r5 h5 q5 => ?_)
                  obtain ⟨rfl, e5⟩ := q5
                  rw [e5]
                  cases hi : ppF (wat l 0) ps 0 with
                  | none =>
                    have hX : cliF cs ps l2 = (5, cs, ps) := by rw [hX, cliG, hi]
                    refine T_istore_n (pc := 99) d_Client_receive_99 rfl (Nat.le_of_ble_eq_true rfl) rfl ?_
                    refine T_iload_n (pc := 100) d_Client_receive_100 rfl ?_
                    refine T_iconst (v := -1) (pc := 101) d_Client_receive_101 rfl ?_
                    refine T_icmp_ne (tgt := 107) (pc := 102) d_Client_receive_102 (by decide) (fun q102 => ?_) (fun q102 => ?_)
                    · exact absurd (show oI none = -1 from rfl) q102
                    · refine T_iconst (v := 5) (pc := 105) d_Client_receive_105 rfl ?_
                      refine T_iret (pc := 106) d_Client_receive_106 rfl rfl (Nat.le_refl _) ?_
                      unfold cliQ
                      rw [hX]
                      exact ⟨rfl, ⟨ads, hv1⟩, fun q z1 => o1 q (by omega) (by omega)⟩
                  | some k =>
                    obtain ⟨_, m, hm, hmx⟩ := ppF_get _ _ _ _ hi
                    rw [Nat.sub_zero] at hm
                    have hk : k < ps.length := (List.getElem?_eq_some_iff.mp hm).1
                    have hp8 := hv.1.2.1
                    have hal := hv.1.2.2.1
                    obtain ⟨j, hj, hmj⟩ := hok m (List.mem_of_getElem? hm)
                    obtain ⟨q0, hq0⟩ : ∃ q0, ads[k]? = some q0 := ⟨_, List.getElem?_eq_getElem (by omega)⟩
                    have hj2 : (ps.getD k (0, 0, [])).1.toNatClampNeg = j := by
                      have := hv.1.1
                      rw [List.getD_eq_getElem?_getD, hm]
                      show m.1.toNatClampNeg = j
                      rw [hmj]
                      exact nI_clamp (by omega)
                    have hX : cliF cs ps l2 = (4, cs.set j (wat l 8, if wat l 8 = 0 then wat l 12 else 0), ps.eraseIdx k) := by rw [hX, cliG, hi]; simp only [hj2]
                    show Tri _ _ _ _ _ (Value.int (nI k) :: _) _ _ _ _
                    refine T_istore_n (pc := 99) d_Client_receive_99 rfl (Nat.le_of_ble_eq_true rfl) rfl ?_
                    refine T_iload_n (pc := 100) d_Client_receive_100 rfl ?_
                    refine T_iconst (v := -1) (pc := 101) d_Client_receive_101 rfl ?_
                    refine T_icmp_ne (tgt := 107) (pc := 102) d_Client_receive_102 (by decide) (fun q102 => ?_) (fun q102 => ?_)
                    · refine T_aload_n (pc := 107) d_Client_receive_107 rfl ?_
                      refine T_iload_n (pc := 108) d_Client_receive_108 rfl ?_
                      refine T_iload_n (pc := 109) d_Client_receive_109 rfl ?_
                      refine T_iload_n (pc := 110) d_Client_receive_110 rfl ?_
                      refine T_if_ne (tgt := 126) (pc := 111) d_Client_receive_111 (by decide) (fun q111 => ?_) (fun q111 => ?_)
                      · refine T_iconst (v := 0) (pc := 126) d_Client_receive_126 rfl ?_
                        refine T_ivV (pc := 127) d_Client_receive_127 sI_Client_90 (c_Client_settle hv1 hm hq0 hmj hj) hv1.obj rfl rfl ⟨(Nat.le_of_ble_eq_true rfl), (Nat.le_of_ble_eq_true rfl)⟩ ⟨(Nat.le_of_ble_eq_true rfl), (Nat.le_of_ble_eq_true rfl)⟩ (Nat.le_of_ble_eq_true rfl) (fun r6 h6 q6 => ?_)
                        obtain ⟨rfl, hv6, o6⟩ := q6
                        refine T_iconst (v := 4) (pc := 130) d_Client_receive_130 rfl ?_
                        refine T_iret (pc := 131) d_Client_receive_131 rfl rfl (Nat.le_refl _) ?_
                        unfold cliQ
                        rw [hX]
                        refine ⟨rfl, ⟨ads.eraseIdx k ++ [q0], ?_⟩, fun q z1 => (o6 q z1).trans (o1 q (by omega) (by omega))⟩
                        show Cl _ c w fm (cs.set j (wat l 8, if wat l 8 = 0 then wat l 12 else 0)) (ps.eraseIdx k) _
                        first
                          | (rw [if_neg q111]; exact hv6)
                          | (rw [if_pos q111]; exact hv6)
                      · refine T_aload_n (pc := 114) d_Client_receive_114 rfl ?_
                        refine T_get (pc := 115) d_Client_receive_115 sF_Client_14_Client hv1.obj rfl ?_
                        refine T_bipush (v := 12) (pc := 118) d_Client_receive_118 rfl ?_
                        have hl16 : l.length = 16 := by rw [hlen, if_pos q111]
                        refine T_ivV (pc := 120) d_Client_receive_120 sI_Client_83 (c_Bytes_wordAt (k := 12) hb1 (by decide) (by omega)) hb1.obj rfl rfl ⟨(Nat.le_of_ble_eq_true rfl), (Nat.le_of_ble_eq_true rfl)⟩ ⟨(Nat.le_of_ble_eq_true rfl), (Nat.le_of_ble_eq_true rfl)⟩ (Nat.le_of_ble_eq_true rfl) (fun r7 h7 q7 => ?_)
                        obtain ⟨rfl, e7⟩ := q7
                        rw [e7]
                        refine T_goto (tgt := 127) (pc := 123) d_Client_receive_123 (by decide) ?_
                        refine T_ivV (pc := 127) d_Client_receive_127 sI_Client_90 (c_Client_settle hv1 hm hq0 hmj hj) hv1.obj rfl rfl ⟨(Nat.le_of_ble_eq_true rfl), (Nat.le_of_ble_eq_true rfl)⟩ ⟨(Nat.le_of_ble_eq_true rfl), (Nat.le_of_ble_eq_true rfl)⟩ (Nat.le_of_ble_eq_true rfl) (fun r6 h6 q6 => ?_)
                        obtain ⟨rfl, hv6, o6⟩ := q6
                        refine T_iconst (v := 4) (pc := 130) d_Client_receive_130 rfl ?_
                        refine T_iret (pc := 131) d_Client_receive_131 rfl rfl (Nat.le_refl _) ?_
                        unfold cliQ
                        rw [hX]
                        refine ⟨rfl, ⟨ads.eraseIdx k ++ [q0], ?_⟩, fun q z1 => (o6 q z1).trans (o1 q (by omega) (by omega))⟩
                        show Cl _ c w fm (cs.set j (wat l 8, if wat l 8 = 0 then wat l 12 else 0)) (ps.eraseIdx k) _
                        first
                          | (rw [if_neg q111]; exact hv6)
                          | (rw [if_pos q111]; exact hv6)
                    · exact absurd q102 (fun e => absurd (show nI k < 0 by rw [e]; decide) (nI_pos (by omega)))
                · have hX : cliF cs ps l2 = (-2, cs, ps) := by
                    rw [hX0, if_pos (fun z => ?_)]
                    first
                      | (rw [if_neg q71] at z; exact q81 (by rw [z]; rfl))
                      | (rw [if_pos q71] at z; exact q81 (by rw [z]; rfl))
                  refine T_bipush (v := -2) (pc := 84) d_Client_receive_84 rfl ?_
                  refine T_iret (pc := 86) d_Client_receive_86 rfl rfl (Nat.le_refl _) ?_
                  unfold cliQ
                  rw [hX]
                  exact ⟨rfl, ⟨ads, hv1⟩, fun q z1 => o1 q (by omega) (by omega)⟩
            · have hX : cliF cs ps l2 = (-2, cs, ps) := by rw [hX0, if_pos (Or.inr (Int32.not_le.mp q57))]
              refine T_bipush (v := -2) (pc := 60) d_Client_receive_60 rfl ?_
              refine T_iret (pc := 62) d_Client_receive_62 rfl rfl (Nat.le_refl _) ?_
              unfold cliQ
              rw [hX]
              exact ⟨rfl, ⟨ads, hv1⟩, fun q z1 => o1 q (by omega) (by omega)⟩
        · have hX : cliF cs ps l2 = (-3, cs, ps) := by rw [hX0, if_pos q35]
          refine T_bipush (v := -3) (pc := 38) d_Client_receive_38 rfl ?_
          refine T_iret (pc := 40) d_Client_receive_40 rfl rfl (Nat.le_refl _) ?_
          unfold cliQ
          rw [hX]
          exact ⟨rfl, ⟨ads, hv1⟩, fun q z1 => o1 q (by omega) (by omega)⟩
      · have hl12 : l.length < 12 := by have := mt (nI_leI (a := 12) (b := l.length) (by decide) (by omega)).mpr q20; omega
        have hX : cliF cs ps l2 = (-2, cs, ps) := by rw [hX0, if_pos hl12]
        refine T_bipush (v := -2) (pc := 23) d_Client_receive_23 rfl ?_
        refine T_iret (pc := 25) d_Client_receive_25 rfl rfl (Nat.le_refl _) ?_
        unfold cliQ
        rw [hX]
        exact ⟨rfl, ⟨ads, hv1⟩, fun q z1 => o1 q (by omega) (by omega)⟩
