/-! OnceWireModel.gather. -/
set_option maxRecDepth 100000 in
set_option maxHeartbeats 4000000 in
theorem c_Md_gather_in {n m p s : Nat} {ν : Int64} {σ0 : Nat → Int32} {α0 : Nat → Nat → Int32} {l : List Int32} {la pc : Int32} {Z : aZ} (hm : mMe σ0 α0 l) (hp : p + s ≤ l.length) : ∀ (t j : Nat) (h : aH) (σ : Nat → Int32) (α : Nat → Nat → Int32) (R : List Int32), j + t = s → R.length + t ≤ 210 → Md h m σ ν α → mRe σ α R → sX [8] σ0 σ → aX [6] α0 α → (∀ h' σ' α', Md h' m σ' ν α' → mdO h h' m → mRe σ' α' (R ++ (l.drop (p + j)).take t) → sX [8] σ0 σ' → aX [6] α0 α' → Tri M_Md_gather (a_rm 1 0 0) Z 138 [(5, .int (nI s)), (1, .int (nI p)), (4, .int la), (3, .int (nI s)), (2, .int pc), (0, .ref m)] [] n h' 0 0) → Tri M_Md_gather (a_rm 1 0 0) Z 113 [(5, .int (nI j)), (1, .int (nI p)), (4, .int la), (3, .int (nI s)), (2, .int pc), (0, .ref m)] [] n h 0 0 := by
  have hl210 := hm.1
  intro t
  induction t with
  | zero =>
    intro j h σ α R hj hl hM hr sx ax hQ
    have hj2 : j = s := by omega
    subst hj2
    refine T_iload (pc := 113) d_Md_gather_113 rfl ?_
    refine T_iload_n (pc := 115) d_Md_gather_115 rfl ?_
    refine T_icmp_ge (tgt := 138) (pc := 116) d_Md_gather_116 (by decide) (fun q116 => ?_) (fun q116 => ?_)
    · exact hQ h σ α hM mdO.rf (by rw [List.take_zero, List.append_nil]; exact hr) sx ax
    · exact absurd (Int32.le_refl _) q116
  | succ t ih =>
    intro j h σ α R hj hl hM hr sx ax hQ
    have eI : nI p + nI j = nI (p + j) := nI_add p j
    obtain ⟨x, hx⟩ : ∃ x, l[p + j]? = some x := ⟨_, List.getElem?_eq_getElem (by omega)⟩
    have e7 : α 7 (nI p + nI j).toNatClampNeg = x := by
      rw [eI, nI_clamp (by omega), ax 7 (by decide)]
      have := hm.2.2 (p + j) (by omega)
      rw [hx, Nat.zero_add] at this
      exact (Option.some.inj this).symm
    have hd : (l.drop (p + j)).take (t + 1) = x :: (l.drop (p + (j + 1))).take t := by
      rw [List.drop_eq_getElem_cons (by omega), List.take_succ_cons]
      congr 1
      exact Option.some.inj ((List.getElem?_eq_getElem (by omega)).symm.trans hx)
    rw [hd] at hQ
    refine T_iload (pc := 113) d_Md_gather_113 rfl ?_
    refine T_iload_n (pc := 115) d_Md_gather_115 rfl ?_
    refine T_icmp_ge (tgt := 138) (pc := 116) d_Md_gather_116 (by decide) (fun q116 => ?_) (fun q116 => ?_)
    · exact absurd q116 (nI_ge (by omega) (by omega))
    · refine T_aload_n (pc := 119) d_Md_gather_119 rfl ?_
      refine T_aload_n (pc := 120) d_Md_gather_120 rfl ?_
      refine T_get (pc := 121) d_Md_gather_121 sF_Md_29_Md hM.1 rfl ?_
      refine T_iload_n (pc := 124) d_Md_gather_124 rfl ?_
      refine T_iload (pc := 125) d_Md_gather_125 rfl ?_
      refine T_iadd (pc := 127) d_Md_gather_127 ?_
      refine T_iald (N := 210) (pc := 128) d_Md_gather_128 (hM.arr 7) (by rw [eI]; exact vp_in_nI (by omega) (by decide)) ?_
      refine T_top e7 ?_
      refine T_ivV (pc := 129) d_Md_gather_129 sI_Md_90 (c_Md_write hM hr (by omega)) hM.1 rfl rfl ⟨(Nat.le_of_ble_eq_true rfl), (Nat.le_of_ble_eq_true rfl)⟩ ⟨(Nat.le_of_ble_eq_true rfl), (Nat.le_of_ble_eq_true rfl)⟩ (Nat.le_of_ble_eq_true rfl) (fun r1 h1 q1 => ?_)
      obtain ⟨σ1, ν1, α1, M1, O1, rfl, rfl, hr1, s1, a1⟩ := q1
      refine T_iinc (pc := 132) d_Md_gather_132 rfl (nI_1 j) (Nat.le_of_ble_eq_true rfl) rfl ?_
      refine T_goto (tgt := 113) (pc := 135) d_Md_gather_135 (by decide) ?_
      exact ih (j + 1) _ _ _ _ (by omega) (by simp; omega) M1 hr1 (sx.tr s1) (ax.tr a1) (fun h' σ' α' k1 k2 k3 k4 k5 => hQ h' σ' α' k1 (O1.tr k2) (by rw [List.append_assoc] at k3; exact k3) k4 k5)
set_option maxRecDepth 100000 in
set_option maxHeartbeats 4000000 in
theorem c_Md_gather_out {n m : Nat} {ν : Int64} {σ0 : Nat → Int32} {α0 : Nat → Nat → Int32} {l : List Int32} {Q : aQ} {h0 : aH} (hm : mMe σ0 α0 l) (hby : byt l) : ∀ (k c p : Nat) (h : aH) (σ : Nat → Int32) (α : Nat → Nat → Int32) (R : List Int32), c + k = 60 → p ≤ l.length → Md h m σ ν α → mdO h0 h m → mRe σ α R → sX [8] σ0 σ → aX [6] α0 α → R.length + (l.length - p) ≤ 210 → (∀ h' σ' α' x, uw k (l.drop p) = some x → Md h' m σ' ν α' → mdO h0 h' m → mRe σ' α' (R ++ x) → sX [8] σ0 σ' → aX [6] α0 α' → Q (some (.int 1)) h') → (∀ h' σ' α' R', uw k (l.drop p) = none → Md h' m σ' ν α' → mdO h0 h' m → mRe σ' α' R' → sX [8] σ0 σ' → aX [6] α0 α' → Q (some (.int 0)) h') → Tri M_Md_gather (a_rm 1 0 0) (a_Z 0 0 Q) 9 [(2, .int (nI c)), (1, .int (nI p)), (0, .ref m)] [] n h 0 0 := by
  have hl210 := hm.1
  intro k
  induction k with
  | zero =>
    intro c p h σ α R hc hp hM hO hr sx ax hl hQ1 hQ0
    have hc2 : c = 60 := by omega
    subst hc2
    refine T_iload_n (pc := 9) d_Md_gather_9 rfl ?_
    refine T_bipush (v := 60) (pc := 10) d_Md_gather_10 rfl ?_
    refine T_icmp_ge (tgt := 167) (pc := 12) d_Md_gather_12 (by decide) (fun q12 => ?_) (fun q12 => ?_)
    · refine T_iconst (v := 0) (pc := 167) d_Md_gather_167 rfl ?_
      refine T_zret (pc := 168) d_Md_gather_168 rfl (by decide) rfl (Nat.le_refl _) ?_
      exact hQ0 h σ α R rfl hM hO hr sx ax
    · exact absurd (Int32.le_refl _) q12
  | succ k ih =>
    intro c p h σ α R hc hp hM hO hr sx ax hl hQ1 hQ0
    have e10 : σ 10 = nI l.length := (sx 10 (by decide)).trans hm.2.1
    have hld : (l.drop p).length = l.length - p := List.length_drop
    refine T_iload_n (pc := 9) d_Md_gather_9 rfl ?_
    refine T_bipush (v := 60) (pc := 10) d_Md_gather_10 rfl ?_
    refine T_icmp_ge (tgt := 167) (pc := 12) d_Md_gather_12 (by decide) (fun q12 => ?_) (fun q12 => ?_)
    · exact absurd q12 (nI_ge (b := 60) (by omega) (by decide))
    · refine T_aload_n (pc := 15) d_Md_gather_15 rfl ?_
      refine T_get (pc := 16) d_Md_gather_16 sF_Md_116_Md hM.1 rfl ?_
      refine T_iload_n (pc := 19) d_Md_gather_19 rfl ?_
      refine T_isub (pc := 20) d_Md_gather_20 ?_
      refine T_iconst (v := 4) (pc := 21) d_Md_gather_21 rfl ?_
      refine T_icmp_ge (tgt := 27) (pc := 22) d_Md_gather_22 (by decide) (fun q22 => ?_) (fun q22 => ?_)
      · rw [e10] at q22
        have h4 : p + 4 ≤ l.length := (nle_sub (a := l.length) (b := p) (c := 4) (by omega) (by omega) (by decide)).mp q22
        have gb : ∀ j, j < 4 → ∃ b, b < 256 ∧ α 7 (p + j) = nI b ∧ l.getD (p + j) 0 = nI b := fun j hj => by
          obtain ⟨x, hx⟩ : ∃ x, l[p + j]? = some x := ⟨_, List.getElem?_eq_getElem (by omega)⟩
          obtain ⟨b, hb, rfl⟩ := hby x (List.mem_of_getElem? hx)
          have h7 := hm.2.2 (p + j) (by omega)
          rw [hx, Nat.zero_add] at h7
          exact ⟨b, hb, by rw [ax 7 (by decide)]; exact (Option.some.inj h7).symm, by rw [List.getD_eq_getElem?_getD, hx]; rfl⟩
        obtain ⟨b0, hb0, a0, g0⟩ := gb 0 (by decide)
        obtain ⟨b1, hb1, a1, g1⟩ := gb 1 (by decide)
        obtain ⟨b2, hb2, a2, g2⟩ := gb 2 (by decide)
        obtain ⟨b3, hb3, a3, g3⟩ := gb 3 (by decide)
        rw [Nat.add_zero] at a0 g0
        have hwat : wat (l.drop p) 0 = nI (b0 * 2 ^ 24 + b1 * 2 ^ 16 + b2 * 2 ^ 8 + b3) := by
          rw [wat_drop, wat, g0, g1, g2, g3]
          exact word4 hb0 hb1 hb2 hb3
        have i1 : nI p + 1 = nI (p + 1) := nI_add p 1
        have i2 : nI p + 2 = nI (p + 2) := nI_add p 2
        have i3 : nI p + 3 = nI (p + 3) := nI_add p 3
        obtain ⟨S, hS⟩ : ∃ S, S = fcn (nI (b0 * 2 ^ 24 + b1 * 2 ^ 16 + b2 * 2 ^ 8 + b3)) := ⟨_, rfl⟩
        have hS31 : S < 2 ^ 31 := by rw [hS]; exact fcn_lt _
        have hu0 : uw (k + 1) (l.drop p) = if l.length - p < 4 + S then none else if 128 ≤ b0 then (if 4 + S = l.length - p then some ((l.drop (p + 4)).take S) else none) else (uw k (l.drop (p + 4 + S))).map (fun r => (l.drop (p + 4)).take S ++ r) := by
          rw [uw, hwat, hld, if_neg (by omega), ← hS, List.drop_drop, List.drop_drop, ← Nat.add_assoc]
          have hneg := word4_neg (N := b0 * 2 ^ 24 + b1 * 2 ^ 16 + b2 * 2 ^ 8 + b3) (by omega)
          have hiff : (nI (b0 * 2 ^ 24 + b1 * 2 ^ 16 + b2 * 2 ^ 8 + b3) < 0) = (128 ≤ b0) := propext (hneg.trans ⟨fun z => by omega, fun z => by omega⟩)
          simp only [hiff]
        refine T_aload_n (pc := 27) d_Md_gather_27 rfl ?_
        refine T_get (pc := 28) d_Md_gather_28 sF_Md_29_Md hM.1 rfl ?_
        refine T_iload_n (pc := 31) d_Md_gather_31 rfl ?_
        refine T_iald (N := 210) (pc := 32) d_Md_gather_32 (hM.arr 7) (vp_in_nI (by omega) (by decide)) ?_
        refine T_bipush (v := 127) (pc := 33) d_Md_gather_33 rfl ?_
        refine T_iand (pc := 35) d_Md_gather_35 ?_
        refine T_sipush (v := 256) (pc := 36) d_Md_gather_36 rfl ?_
        refine T_imul (pc := 39) d_Md_gather_39 ?_
        refine T_aload_n (pc := 40) d_Md_gather_40 rfl ?_
        refine T_get (pc := 41) d_Md_gather_41 sF_Md_29_Md hM.1 rfl ?_
        refine T_iload_n (pc := 44) d_Md_gather_44 rfl ?_
        refine T_iconst (v := 1) (pc := 45) d_Md_gather_45 rfl ?_
        refine T_iadd (pc := 46) d_Md_gather_46 ?_
        refine T_iald (N := 210) (pc := 47) d_Md_gather_47 (hM.arr 7) (by rw [i1]; exact vp_in_nI (by omega) (by decide)) ?_
        refine T_iadd (pc := 48) d_Md_gather_48 ?_
        refine T_ldc (pc := 49) d_Md_gather_49 (Ws_at (i := 9) (k := 4) rfl rfl) ?_
        refine T_imul (pc := 51) d_Md_gather_51 ?_
        refine T_aload_n (pc := 52) d_Md_gather_52 rfl ?_
        refine T_get (pc := 53) d_Md_gather_53 sF_Md_29_Md hM.1 rfl ?_
        refine T_iload_n (pc := 56) d_Md_gather_56 rfl ?_
        refine T_iconst (v := 2) (pc := 57) d_Md_gather_57 rfl ?_
        refine T_iadd (pc := 58) d_Md_gather_58 ?_
        refine T_iald (N := 210) (pc := 59) d_Md_gather_59 (hM.arr 7) (by rw [i2]; exact vp_in_nI (by omega) (by decide)) ?_
        refine T_sipush (v := 256) (pc := 60) d_Md_gather_60 rfl ?_
        refine T_imul (pc := 63) d_Md_gather_63 ?_
        refine T_iadd (pc := 64) d_Md_gather_64 ?_
        refine T_aload_n (pc := 65) d_Md_gather_65 rfl ?_
        refine T_get (pc := 66) d_Md_gather_66 sF_Md_29_Md hM.1 rfl ?_
        refine T_iload_n (pc := 69) d_Md_gather_69 rfl ?_
        refine T_iconst (v := 3) (pc := 70) d_Md_gather_70 rfl ?_
        refine T_iadd (pc := 71) d_Md_gather_71 ?_
        refine T_iald (N := 210) (pc := 72) d_Md_gather_72 (hM.arr 7) (by rw [i3]; exact vp_in_nI (by omega) (by decide)) ?_
        refine T_iadd (pc := 73) d_Md_gather_73 ?_
        refine T_top (show (((α 7 (nI p).toNatClampNeg &&& 127) * 256 + α 7 (nI p + 1).toNatClampNeg) * 65536 + α 7 (nI p + 2).toNatClampNeg * 256) + α 7 (nI p + 3).toNatClampNeg = nI S by rw [i1, i2, i3, nI_clamp (by omega), nI_clamp (by omega), nI_clamp (by omega), nI_clamp (by omega), a0, a1, a2, a3, hS]; exact word4_fcn hb0 hb1 hb2 hb3) ?_
        refine T_istore_n (pc := 74) d_Md_gather_74 rfl (Nat.le_of_ble_eq_true rfl) rfl ?_
        refine T_aload_n (pc := 75) d_Md_gather_75 rfl ?_
        refine T_get (pc := 76) d_Md_gather_76 sF_Md_29_Md hM.1 rfl ?_
        refine T_iload_n (pc := 79) d_Md_gather_79 rfl ?_
        refine T_iald (N := 210) (pc := 80) d_Md_gather_80 (hM.arr 7) (vp_in_nI (by omega) (by decide)) ?_
        refine T_sipush (v := 128) (pc := 81) d_Md_gather_81 rfl ?_
        refine T_icmp_lt (tgt := 91) (pc := 84) d_Md_gather_84 (by decide) (fun q84 => ?_) (fun q84 => ?_)
        · refine T_iconst (v := 0) (pc := 91) d_Md_gather_91 rfl ?_
          refine T_istore (pc := 92) d_Md_gather_92 (Nat.le_of_ble_eq_true rfl) rfl ?_
          refine T_iload_n (pc := 94) d_Md_gather_94 rfl ?_
          refine T_iconst (v := 4) (pc := 95) d_Md_gather_95 rfl ?_
          refine T_iadd (pc := 96) d_Md_gather_96 ?_
          refine T_top (show nI p + 4 = nI (p + 4) from nI_add p 4) ?_
          refine T_istore_n (pc := 97) d_Md_gather_97 rfl (Nat.le_of_ble_eq_true rfl) rfl ?_
          refine T_iload_n (pc := 98) d_Md_gather_98 rfl ?_
          refine T_aload_n (pc := 99) d_Md_gather_99 rfl ?_
          refine T_get (pc := 100) d_Md_gather_100 sF_Md_116_Md hM.1 rfl ?_
          refine T_iload_n (pc := 103) d_Md_gather_103 rfl ?_
          refine T_isub (pc := 104) d_Md_gather_104 ?_
          refine T_icmp_le (tgt := 110) (pc := 105) d_Md_gather_105 (by decide) (fun q105 => ?_) (fun q105 => ?_)
          · refine T_iconst (v := 0) (pc := 110) d_Md_gather_110 rfl ?_
            refine T_istore (pc := 111) d_Md_gather_111 (Nat.le_of_ble_eq_true rfl) rfl ?_
            have hle : p + 4 + S ≤ l.length := by
              rw [e10] at q105
              exact (nle_sub (a := l.length) (b := p + 4) (c := S) (by omega) (by omega) hS31).mp q105
            rw [if_neg (by omega)] at hu0
            refine c_Md_gather_in (p := p + 4) (s := S) hm hle S 0 h σ α R (Nat.zero_add _) (by omega) hM hr sx ax (fun h1 σ1 α1 M1 O1 r1 s1 x1 => ?_)
            rw [Nat.add_zero] at r1
            have e101 : σ1 10 = nI l.length := (s1 10 (by decide)).trans hm.2.1
            have hO1 := hO.tr O1
            have h84 : α 7 (nI p).toNatClampNeg = nI b0 := by rw [nI_clamp (by omega)]; exact a0
            rw [h84] at q84
            refine T_iload_n (pc := 138) d_Md_gather_138 rfl ?_
            refine T_iload_n (pc := 139) d_Md_gather_139 rfl ?_
            refine T_iadd (pc := 140) d_Md_gather_140 ?_
            refine T_top (show nI (p + 4) + nI S = nI (p + 4 + S) from nI_add _ _) ?_
            refine T_istore_n (pc := 141) d_Md_gather_141 rfl (Nat.le_of_ble_eq_true rfl) rfl ?_
            refine T_iload (pc := 142) d_Md_gather_142 rfl ?_
            refine T_if_eq (tgt := 161) (pc := 144) d_Md_gather_144 (by decide) (fun q144 => ?_) (fun q144 => ?_)
            · refine T_iinc (pc := 161) d_Md_gather_161 rfl (nI_1 c) (Nat.le_of_ble_eq_true rfl) rfl ?_
              refine T_goto (tgt := 9) (pc := 164) d_Md_gather_164 (by decide) ?_
              have hb : ¬ 128 ≤ b0 := by
                first
                  | exact absurd q144 (by decide)
                  | (intro z
                     have := (nI_ltI (a := b0) (b := 128) (by omega) (by decide)).mp q84
                     omega)
              rw [if_neg hb] at hu0
              refine T_loc [0, 1, 5] rfl ?_
              have hlen : (R ++ (l.drop (p + 4)).take S).length = R.length + S := by rw [List.length_append, List.length_take, List.length_drop]; omega
              refine ih (c + 1) (p + 4 + S) h1 σ1 α1 _ (by omega) hle M1 hO1 r1 s1 x1 (by omega) (fun h' σ' α' x kx k1 k2 k3 k4 k5 => hQ1 h' σ' α' _ (by rw [hu0, kx]; rfl) k1 k2 (by rw [List.append_assoc] at k3; exact k3) k4 k5) (fun h' σ' α' R' kx k1 k2 k3 k4 k5 => hQ0 h' σ' α' R' (by rw [hu0, kx]; rfl) k1 k2 k3 k4 k5)
            · refine T_iload_n (pc := 147) d_Md_gather_147 rfl ?_
              refine T_aload_n (pc := 148) d_Md_gather_148 rfl ?_
              refine T_get (pc := 149) d_Md_gather_149 sF_Md_116_Md M1.1 rfl ?_
              refine T_icmp_ne (tgt := 159) (pc := 152) d_Md_gather_152 (by decide) (fun q152 => ?_) (fun q152 => ?_)
              · refine T_iconst (v := 0) (pc := 159) d_Md_gather_159 rfl ?_
                refine T_zret (pc := 160) d_Md_gather_160 rfl (by decide) rfl (Nat.le_refl _) ?_
                have hb : 128 ≤ b0 := by
                  first
                    | exact absurd rfl q144
                    | (rcases Nat.lt_or_ge b0 128 with z | z
                       · exact absurd ((nI_ltI (a := b0) (b := 128) (by omega) (by decide)).mpr z) q84
                       · exact z)
                rw [e101] at q152
                first
                  | (have he := (nI_eq (a := p + 4 + S) (b := l.length) (by omega) (by omega)).mp q152
                     exact hQ1 _ _ _ _ (by rw [hu0, if_pos hb, if_pos (by omega)]) M1 hO1 r1 s1 x1)
                  | (have he : p + 4 + S ≠ l.length := fun z => q152 (by rw [z])
                     exact hQ0 _ _ _ _ (by rw [hu0, if_pos hb, if_neg (by omega)]) M1 hO1 r1 s1 x1)
              · refine T_iconst (v := 1) (pc := 155) d_Md_gather_155 rfl ?_
                refine T_goto (tgt := 160) (pc := 156) d_Md_gather_156 (by decide) ?_
                refine T_zret (pc := 160) d_Md_gather_160 rfl (by decide) rfl (Nat.le_refl _) ?_
                have hb : 128 ≤ b0 := by
                  first
                    | exact absurd rfl q144
                    | (rcases Nat.lt_or_ge b0 128 with z | z
                       · exact absurd ((nI_ltI (a := b0) (b := 128) (by omega) (by decide)).mpr z) q84
                       · exact z)
                rw [e101] at q152
                first
                  | (have he := (nI_eq (a := p + 4 + S) (b := l.length) (by omega) (by omega)).mp q152
                     exact hQ1 _ _ _ _ (by rw [hu0, if_pos hb, if_pos (by omega)]) M1 hO1 r1 s1 x1)
                  | (have he : p + 4 + S ≠ l.length := fun z => q152 (by rw [z])
                     exact hQ0 _ _ _ _ (by rw [hu0, if_pos hb, if_neg (by omega)]) M1 hO1 r1 s1 x1)
          · have hlt : l.length - p < 4 + S := by
              rw [e10] at q105
              have := mt (nle_sub (a := l.length) (b := p + 4) (c := S) (by omega) (by omega) hS31).mpr q105
              omega
            have hu : uw (k + 1) (l.drop p) = none := by rw [hu0, if_pos hlt]
            refine T_iconst (v := 0) (pc := 108) d_Md_gather_108 rfl ?_
            refine T_zret (pc := 109) d_Md_gather_109 rfl (by decide) rfl (Nat.le_refl _) ?_
            exact hQ0 _ _ _ _ hu hM hO hr sx ax
        · refine T_iconst (v := 1) (pc := 87) d_Md_gather_87 rfl ?_
          refine T_goto (tgt := 92) (pc := 88) d_Md_gather_88 (by decide) ?_
          refine T_istore (pc := 92) d_Md_gather_92 (Nat.le_of_ble_eq_true rfl) rfl ?_
          refine T_iload_n (pc := 94) d_Md_gather_94 rfl ?_
          refine T_iconst (v := 4) (pc := 95) d_Md_gather_95 rfl ?_
          refine T_iadd (pc := 96) d_Md_gather_96 ?_
          refine T_top (show nI p + 4 = nI (p + 4) from nI_add p 4) ?_
          refine T_istore_n (pc := 97) d_Md_gather_97 rfl (Nat.le_of_ble_eq_true rfl) rfl ?_
          refine T_iload_n (pc := 98) d_Md_gather_98 rfl ?_
          refine T_aload_n (pc := 99) d_Md_gather_99 rfl ?_
          refine T_get (pc := 100) d_Md_gather_100 sF_Md_116_Md hM.1 rfl ?_
          refine T_iload_n (pc := 103) d_Md_gather_103 rfl ?_
          refine T_isub (pc := 104) d_Md_gather_104 ?_
          refine T_icmp_le (tgt := 110) (pc := 105) d_Md_gather_105 (by decide) (fun q105 => ?_) (fun q105 => ?_)
          · refine T_iconst (v := 0) (pc := 110) d_Md_gather_110 rfl ?_
            refine T_istore (pc := 111) d_Md_gather_111 (Nat.le_of_ble_eq_true rfl) rfl ?_
            have hle : p + 4 + S ≤ l.length := by
              rw [e10] at q105
              exact (nle_sub (a := l.length) (b := p + 4) (c := S) (by omega) (by omega) hS31).mp q105
            rw [if_neg (by omega)] at hu0
            refine c_Md_gather_in (p := p + 4) (s := S) hm hle S 0 h σ α R (Nat.zero_add _) (by omega) hM hr sx ax (fun h1 σ1 α1 M1 O1 r1 s1 x1 => ?_)
            rw [Nat.add_zero] at r1
            have e101 : σ1 10 = nI l.length := (s1 10 (by decide)).trans hm.2.1
            have hO1 := hO.tr O1
            have h84 : α 7 (nI p).toNatClampNeg = nI b0 := by rw [nI_clamp (by omega)]; exact a0
            rw [h84] at q84
            refine T_iload_n (pc := 138) d_Md_gather_138 rfl ?_
            refine T_iload_n (pc := 139) d_Md_gather_139 rfl ?_
            refine T_iadd (pc := 140) d_Md_gather_140 ?_
            refine T_top (show nI (p + 4) + nI S = nI (p + 4 + S) from nI_add _ _) ?_
            refine T_istore_n (pc := 141) d_Md_gather_141 rfl (Nat.le_of_ble_eq_true rfl) rfl ?_
            refine T_iload (pc := 142) d_Md_gather_142 rfl ?_
            refine T_if_eq (tgt := 161) (pc := 144) d_Md_gather_144 (by decide) (fun q144 => ?_) (fun q144 => ?_)
            · refine T_iinc (pc := 161) d_Md_gather_161 rfl (nI_1 c) (Nat.le_of_ble_eq_true rfl) rfl ?_
              refine T_goto (tgt := 9) (pc := 164) d_Md_gather_164 (by decide) ?_
              have hb : ¬ 128 ≤ b0 := by
                first
                  | exact absurd q144 (by decide)
                  | (intro z
                     have := (nI_ltI (a := b0) (b := 128) (by omega) (by decide)).mp q84
                     omega)
              rw [if_neg hb] at hu0
              refine T_loc [0, 1, 5] rfl ?_
              have hlen : (R ++ (l.drop (p + 4)).take S).length = R.length + S := by rw [List.length_append, List.length_take, List.length_drop]; omega
              refine ih (c + 1) (p + 4 + S) h1 σ1 α1 _ (by omega) hle M1 hO1 r1 s1 x1 (by omega) (fun h' σ' α' x kx k1 k2 k3 k4 k5 => hQ1 h' σ' α' _ (by rw [hu0, kx]; rfl) k1 k2 (by rw [List.append_assoc] at k3; exact k3) k4 k5) (fun h' σ' α' R' kx k1 k2 k3 k4 k5 => hQ0 h' σ' α' R' (by rw [hu0, kx]; rfl) k1 k2 k3 k4 k5)
            · refine T_iload_n (pc := 147) d_Md_gather_147 rfl ?_
              refine T_aload_n (pc := 148) d_Md_gather_148 rfl ?_
              refine T_get (pc := 149) d_Md_gather_149 sF_Md_116_Md M1.1 rfl ?_
              refine T_icmp_ne (tgt := 159) (pc := 152) d_Md_gather_152 (by decide) (fun q152 => ?_) (fun q152 => ?_)
              · refine T_iconst (v := 0) (pc := 159) d_Md_gather_159 rfl ?_
                refine T_zret (pc := 160) d_Md_gather_160 rfl (by decide) rfl (Nat.le_refl _) ?_
                have hb : 128 ≤ b0 := by
                  first
                    | exact absurd rfl q144
                    | (rcases Nat.lt_or_ge b0 128 with z | z
                       · exact absurd ((nI_ltI (a := b0) (b := 128) (by omega) (by decide)).mpr z) q84
                       · exact z)
                rw [e101] at q152
                first
                  | (have he := (nI_eq (a := p + 4 + S) (b := l.length) (by omega) (by omega)).mp q152
                     exact hQ1 _ _ _ _ (by rw [hu0, if_pos hb, if_pos (by omega)]) M1 hO1 r1 s1 x1)
                  | (have he : p + 4 + S ≠ l.length := fun z => q152 (by rw [z])
                     exact hQ0 _ _ _ _ (by rw [hu0, if_pos hb, if_neg (by omega)]) M1 hO1 r1 s1 x1)
              · refine T_iconst (v := 1) (pc := 155) d_Md_gather_155 rfl ?_
                refine T_goto (tgt := 160) (pc := 156) d_Md_gather_156 (by decide) ?_
                refine T_zret (pc := 160) d_Md_gather_160 rfl (by decide) rfl (Nat.le_refl _) ?_
                have hb : 128 ≤ b0 := by
                  first
                    | exact absurd rfl q144
                    | (rcases Nat.lt_or_ge b0 128 with z | z
                       · exact absurd ((nI_ltI (a := b0) (b := 128) (by omega) (by decide)).mpr z) q84
                       · exact z)
                rw [e101] at q152
                first
                  | (have he := (nI_eq (a := p + 4 + S) (b := l.length) (by omega) (by omega)).mp q152
                     exact hQ1 _ _ _ _ (by rw [hu0, if_pos hb, if_pos (by omega)]) M1 hO1 r1 s1 x1)
                  | (have he : p + 4 + S ≠ l.length := fun z => q152 (by rw [z])
                     exact hQ0 _ _ _ _ (by rw [hu0, if_pos hb, if_neg (by omega)]) M1 hO1 r1 s1 x1)
          · have hlt : l.length - p < 4 + S := by
              rw [e10] at q105
              have := mt (nle_sub (a := l.length) (b := p + 4) (c := S) (by omega) (by omega) hS31).mpr q105
              omega
            have hu : uw (k + 1) (l.drop p) = none := by rw [hu0, if_pos hlt]
            refine T_iconst (v := 0) (pc := 108) d_Md_gather_108 rfl ?_
            refine T_zret (pc := 109) d_Md_gather_109 rfl (by decide) rfl (Nat.le_refl _) ?_
            exact hQ0 _ _ _ _ hu hM hO hr sx ax
      · have hlt : l.length < p + 4 := by
          rw [e10] at q22
          have := mt (nle_sub (a := l.length) (b := p) (c := 4) (by omega) (by omega) (by decide)).mpr q22
          omega
        have hu : uw (k + 1) (l.drop p) = none := by rw [uw, if_pos (by omega)]
        refine T_iconst (v := 0) (pc := 25) d_Md_gather_25 rfl ?_
        refine T_zret (pc := 26) d_Md_gather_26 rfl (by decide) rfl (Nat.le_refl _) ?_
        exact hQ0 _ _ _ _ hu hM hO hr sx ax
set_option maxRecDepth 100000 in
set_option maxHeartbeats 4000000 in
theorem c_Md_gather {n m : Nat} {h : aH} {σ : Nat → Int32} {ν : Int64} {α : Nat → Nat → Int32} {l : List Int32} (hM : Md h m σ ν α) (hm : mMe σ α l) (hby : byt l) : Con M_Md_gather 1 0 0 n [.ref m] h (mQ h m (fun r σ' ν' α' => ν' = ν ∧ sX [8] σ σ' ∧ aX [6] α α' ∧ match uw 60 l with | some x => r = some (.int 1) ∧ mRe σ' α' x | none => r = some (.int 0) ∧ ∃ R, mRe σ' α' R)) := by
  refine Con.of rfl (Nat.le_of_ble_eq_true rfl) ?_
  refine T_aload_n (pc := 0) d_Md_gather_0 rfl ?_
  refine T_iconst (v := 0) (pc := 1) d_Md_gather_1 rfl ?_
  refine T_put (pc := 2) d_Md_gather_2 sF_Md_87_Md hM.1 (Nat.le_of_ble_eq_true rfl) (a_fit_i _) (T_up (fun h2x1 g2x1 o2x1 => ?_))
  have M2x1 := hM.put 8 _ g2x1 o2x1 rfl
  have O2x1 := mdO.o (j := 0) mdO.rf o2x1 (by decide)
  refine T_iconst (v := 0) (pc := 5) d_Md_gather_5 rfl ?_
  refine T_istore_n (pc := 6) d_Md_gather_6 rfl (Nat.le_of_ble_eq_true rfl) rfl ?_
  refine T_iconst (v := 0) (pc := 7) d_Md_gather_7 rfl ?_
  refine T_istore_n (pc := 8) d_Md_gather_8 rfl (Nat.le_of_ble_eq_true rfl) rfl ?_
  have hm1 := hm.same (σ' := upd σ 8 0) (α' := α) (pk_un (by decide)) rfl
  have s8 : sX [8] σ (upd σ 8 0) := sX.rf.up (by decide)
  have hl := hm.1
  refine c_Md_gather_out hm1 hby 60 0 0 _ _ α [] rfl (Nat.zero_le _) M2x1 O2x1 ⟨by simp, pk_us, Rw.nil⟩ sX.rf aX.rf (by simp; omega) (fun h' σ' α' x kx k1 k2 k3 k4 k5 => ⟨σ', ν, α', k1, k2, rfl, s8.tr k4, k5, ?_⟩) (fun h' σ' α' R' kx k1 k2 k3 k4 k5 => ⟨σ', ν, α', k1, k2, rfl, s8.tr k4, k5, ?_⟩)
  · rw [List.drop_zero] at kx
    rw [kx]
    exact ⟨rfl, k3⟩
  · rw [List.drop_zero] at kx
    rw [kx]
    exact ⟨rfl, R', k3⟩
