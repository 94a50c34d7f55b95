/-! The law: cell, the relation, a step of each kind. -/
def Rl (h : aH) (L : Nat) (f : Nat → Int32) : Prop := h 0 = some (.inl (.int, L, .inl f)) ∧ ∃ (wf : Bool) (ns : List Sf) (vs : List (List Int32)) (db : List Int32) (ms : List Mg) (sl : List Kn) (old : Nat) (kl : List Kt) (tot run : Int32) (cs : List (Int32 × Int32)) (ps : List Pd), Ow h 1 wf ns vs db ms sl old tot run cs ps ∧ Mo h 91 wf ns vs db ms kl tot run cs ps ∧ kR kl sl old ∧ nsN ns ∧ vOk ns vs ∧ byt db ∧ msB ms ∧ psB ps
set_option maxRecDepth 100000 in
set_option maxHeartbeats 4000000 in
theorem c_Lw_cell {n L : Nat} {h : aH} {f : Nat → Int32} (hS : h 0 = some (.inl (.int, L, .inl f))) (hL : L ≤ 2049) : Con M_Lw_cell 0 0 0 n [.ref 0, .int 0] h (fun r h' => r = some (.int (if 0 < L then f 0 else 0)) ∧ h' = h) := by
  refine Con.of rfl (Nat.le_of_ble_eq_true rfl) ?_
  refine T_iload_n (pc := 0) d_Lw_cell_0 rfl ?_
  refine T_aload_n (pc := 1) d_Lw_cell_1 rfl ?_
  refine T_alen (pc := 2) d_Lw_cell_2 hS (Or.inl rfl) ?_
  refine T_icmp_ge (tgt := 12) (pc := 3) d_Lw_cell_3 (by decide) (fun q3 => ?_) (fun q3 => ?_)
  · refine T_iconst (v := 0) (pc := 12) d_Lw_cell_12 rfl ?_
    refine T_iret (pc := 13) d_Lw_cell_13 rfl rfl (Nat.le_refl _) ?_
    first
      | (rw [if_pos hp]
         exact ⟨rfl, rfl⟩)
      | (rw [if_neg (fun z => absurd q3 (nI_ge (a := 0) (b := L) z (by omega)))]
         exact ⟨rfl, rfl⟩)
  · have hp : 0 < L := by
      rcases Nat.eq_zero_or_pos L with z | z
      · exact absurd (by rw [z]; decide) q3
      · exact z
    refine T_aload_n (pc := 6) d_Lw_cell_6 rfl ?_
    refine T_iload_n (pc := 7) d_Lw_cell_7 rfl ?_
    refine T_iald (pc := 8) d_Lw_cell_8 hS (vp_in_nI (n := 0) hp (by omega)) ?_
    refine T_goto (tgt := 13) (pc := 9) d_Lw_cell_9 (by decide) ?_
    refine T_iret (pc := 13) d_Lw_cell_13 rfl rfl (Nat.le_refl _) ?_
    first
      | (rw [if_pos hp]
         exact ⟨rfl, rfl⟩)
      | (rw [if_neg (fun z => absurd q3 (nI_ge (a := 0) (b := L) z (by omega)))]
         exact ⟨rfl, rfl⟩)
set_option maxRecDepth 100000 in
set_option maxHeartbeats 4000000 in
theorem law_field {h : aH} {L i : Nat} {f : Nat → Int32} (hR : Rl h L f) (hi : i + 4 ≤ L) (hL : L ≤ 2049) (hK : ∀ h', Rl h' L f → Tri M_Lw_law room_1 ZL 535 [(3, .int (nI i)), (2, .ref 91), (1, .ref 1), (0, .ref 0)] [] 111 h' 111 9914) : Tri M_Lw_law room_1 ZL 124 [(3, .int (nI i)), (2, .ref 91), (1, .ref 1), (0, .ref 0)] [] 111 h 111 9914 := by
  obtain ⟨hS, wf, ns, vs, db, ms, sl, old, kl, tot, run, cs, ps, hO, hMo, hk, hn, hok, hdb, hms, hps⟩ := id hR
  refine T_aload_n (pc := 124) d_Lw_law_124 rfl ?_
  refine T_aload_n (pc := 125) d_Lw_law_125 rfl ?_
  refine T_iload_n (pc := 126) d_Lw_law_126 rfl ?_
  refine T_iconst (v := 1) (pc := 127) d_Lw_law_127 rfl ?_
  refine T_iadd (pc := 128) d_Lw_law_128 ?_
  refine T_iald (pc := 129) d_Lw_law_129 hS (by rw [show (nI i + 1 : Int32) = nI (i + 1) from nI_add i 1]; exact vp_in_nI (by omega) (by omega)) ?_
  refine T_aload_n (pc := 130) d_Lw_law_130 rfl ?_
  refine T_iload_n (pc := 131) d_Lw_law_131 rfl ?_
  refine T_iconst (v := 2) (pc := 132) d_Lw_law_132 rfl ?_
  refine T_iadd (pc := 133) d_Lw_law_133 ?_
  refine T_iald (pc := 134) d_Lw_law_134 hS (by rw [show (nI i + 2 : Int32) = nI (i + 2) from nI_add i 2]; exact vp_in_nI (by omega) (by omega)) ?_
  refine T_aload_n (pc := 135) d_Lw_law_135 rfl ?_
  refine T_iload_n (pc := 136) d_Lw_law_136 rfl ?_
  refine T_iconst (v := 3) (pc := 137) d_Lw_law_137 rfl ?_
  refine T_iadd (pc := 138) d_Lw_law_138 ?_
  refine T_iald (pc := 139) d_Lw_law_139 hS (by rw [show (nI i + 3 : Int32) = nI (i + 3) from nI_add i 3]; exact vp_in_nI (by omega) (by omega)) ?_
  refine T_if_eq (tgt := 147) (pc := 140) d_Lw_law_140 (by decide) (fun q140 => ?_) (fun q140 => ?_)
  · skip
    refine T_iconst (v := 0) (pc := 147) d_Lw_law_147 rfl ?_
    refine T_ivV (pc := 148) d_Lw_law_148 sI_Lw_21 (c_OW_field hO (y := (f (nI i + 1).toNatClampNeg)) (k := (f (nI i + 2).toNatClampNeg)) (rp := false)) hO.1 rfl rfl ⟨(Nat.le_of_ble_eq_true rfl), (Nat.le_of_ble_eq_true rfl)⟩ ⟨(Nat.le_of_ble_eq_true rfl), (Nat.le_of_ble_eq_true rfl)⟩ (Nat.le_of_ble_eq_true rfl) (fun r1 h1 q1 => ?_)
    obtain ⟨rfl, O1, f1⟩ := q1
    have hS1 : h1 0 = _ := (f1 0 (Or.inl (by decide))).trans hS
    have Mo1 := hMo.same (h' := h1) (fun q z1 z2 => f1 q (Or.inr (by omega)))
    obtain ⟨σ, ν, α, svs, slo, hM, hs, hv, hu, hd, hne, hkn, hc, hp, ew, e19, e20⟩ := id Mo1
    have h30 : ∀ t, t ∈ ns → t.1 ≤ 30 := fun t ht => by
      obtain ⟨j, hj⟩ := List.mem_iff_getElem?.mp ht
      exact (hs.2.2 j t hj).2.2.2.2.1
    refine T_aload_n (pc := 151) d_Lw_law_151 rfl ?_
    refine T_aload_n (pc := 152) d_Lw_law_152 rfl ?_
    refine T_iload_n (pc := 153) d_Lw_law_153 rfl ?_
    refine T_iconst (v := 1) (pc := 154) d_Lw_law_154 rfl ?_
    refine T_iadd (pc := 155) d_Lw_law_155 ?_
    refine T_iald (pc := 156) d_Lw_law_156 hS1 (by rw [show (nI i + 1 : Int32) = nI (i + 1) from nI_add i 1]; exact vp_in_nI (by omega) (by omega)) ?_
    refine T_aload_n (pc := 157) d_Lw_law_157 rfl ?_
    refine T_iload_n (pc := 158) d_Lw_law_158 rfl ?_
    refine T_iconst (v := 2) (pc := 159) d_Lw_law_159 rfl ?_
    refine T_iadd (pc := 160) d_Lw_law_160 ?_
    refine T_iald (pc := 161) d_Lw_law_161 hS1 (by rw [show (nI i + 2 : Int32) = nI (i + 2) from nI_add i 2]; exact vp_in_nI (by omega) (by omega)) ?_
    refine T_aload_n (pc := 162) d_Lw_law_162 rfl ?_
    refine T_iload_n (pc := 163) d_Lw_law_163 rfl ?_
    refine T_iconst (v := 3) (pc := 164) d_Lw_law_164 rfl ?_
    refine T_iadd (pc := 165) d_Lw_law_165 ?_
    refine T_iald (pc := 166) d_Lw_law_166 hS1 (by rw [show (nI i + 3 : Int32) = nI (i + 3) from nI_add i 3]; exact vp_in_nI (by omega) (by omega)) ?_
    refine T_if_eq (tgt := 174) (pc := 167) d_Lw_law_167 (by decide) (fun q167 => ?_) (fun q167 => absurd q167 (fun z => z q140))
    refine T_iconst (v := 0) (pc := 174) d_Lw_law_174 rfl ?_
    refine T_ivV (pc := 175) d_Lw_law_175 sI_Lw_25 (c_Md_field (y := (f (nI i + 1).toNatClampNeg)) (k := (f (nI i + 2).toNatClampNeg)) (rp := false) hM hs hv hu) hM.1 rfl rfl ⟨(Nat.le_of_ble_eq_true rfl), (Nat.le_of_ble_eq_true rfl)⟩ ⟨(Nat.le_of_ble_eq_true rfl), (Nat.le_of_ble_eq_true rfl)⟩ (Nat.le_of_ble_eq_true rfl) (fun r2 h2 q2 => ?_)
    obtain ⟨σ2, ν2, α2, M2, O2, rfl, e2, hs2, hv2, hu2, s2, a2⟩ := q2
    have hS2 : h2 0 = _ := (O2 0 (Or.inl (by decide))).trans hS1
    have Ow2 := Ow.same (h' := h2) O1 (fun q z1 z2 => O2 q (Or.inl (by omega)))
    have Mo2 : Mo h2 91 wf _ _ db ms kl tot run cs ps := ⟨_, _, α2, _, slo, M2, hs2, hv2, hu2, hd.same (s2 18 (by decide)) (a2 11 (by decide)), hne.same (s2 13 (by decide)) (a2 8 (by decide)) (a2 9 (by decide)) (a2 10 (by decide)), hkn.same (s2 21 (by decide)) (a2 12 (by decide)) (a2 13 (by decide)) (a2 14 (by decide)), hc.same (s2 25 (by decide)) (a2 15 (by decide)) (a2 16 (by decide)), hp.same (a2 17 (by decide)) (a2 18 (by decide)) (a2 19 (by decide)) (a2 20 (by decide)), (s2 0 (by decide)).trans ew, (s2 19 (by decide)).trans e19, (s2 20 (by decide)).trans e20⟩
    refine T_icmp_eq (tgt := 535) (pc := 178) d_Lw_law_178 (by decide) (fun q178 => ?_) (fun q178 => absurd q178 (fun z => z rfl))
    exact hK h2 ⟨hS2, _, _, _, _, _, _, _, _, _, _, _, _, Ow2, Mo2, hk, dclN hn h30, vOk_fld hok hv.1, hdb, hms, hps⟩
  · skip
    refine T_iconst (v := 1) (pc := 143) d_Lw_law_143 rfl ?_
    refine T_goto (tgt := 148) (pc := 144) d_Lw_law_144 (by decide) ?_
    refine T_ivV (pc := 148) d_Lw_law_148 sI_Lw_21 (c_OW_field hO (y := (f (nI i + 1).toNatClampNeg)) (k := (f (nI i + 2).toNatClampNeg)) (rp := true)) hO.1 rfl rfl ⟨(Nat.le_of_ble_eq_true rfl), (Nat.le_of_ble_eq_true rfl)⟩ ⟨(Nat.le_of_ble_eq_true rfl), (Nat.le_of_ble_eq_true rfl)⟩ (Nat.le_of_ble_eq_true rfl) (fun r1 h1 q1 => ?_)
    obtain ⟨rfl, O1, f1⟩ := q1
    have hS1 : h1 0 = _ := (f1 0 (Or.inl (by decide))).trans hS
    have Mo1 := hMo.same (h' := h1) (fun q z1 z2 => f1 q (Or.inr (by omega)))
    obtain ⟨σ, ν, α, svs, slo, hM, hs, hv, hu, hd, hne, hkn, hc, hp, ew, e19, e20⟩ := id Mo1
    have h30 : ∀ t, t ∈ ns → t.1 ≤ 30 := fun t ht => by
      obtain ⟨j, hj⟩ := List.mem_iff_getElem?.mp ht
      exact (hs.2.2 j t hj).2.2.2.2.1
    refine T_aload_n (pc := 151) d_Lw_law_151 rfl ?_
    refine T_aload_n (pc := 152) d_Lw_law_152 rfl ?_
    refine T_iload_n (pc := 153) d_Lw_law_153 rfl ?_
    refine T_iconst (v := 1) (pc := 154) d_Lw_law_154 rfl ?_
    refine T_iadd (pc := 155) d_Lw_law_155 ?_
    refine T_iald (pc := 156) d_Lw_law_156 hS1 (by rw [show (nI i + 1 : Int32) = nI (i + 1) from nI_add i 1]; exact vp_in_nI (by omega) (by omega)) ?_
    refine T_aload_n (pc := 157) d_Lw_law_157 rfl ?_
    refine T_iload_n (pc := 158) d_Lw_law_158 rfl ?_
    refine T_iconst (v := 2) (pc := 159) d_Lw_law_159 rfl ?_
    refine T_iadd (pc := 160) d_Lw_law_160 ?_
    refine T_iald (pc := 161) d_Lw_law_161 hS1 (by rw [show (nI i + 2 : Int32) = nI (i + 2) from nI_add i 2]; exact vp_in_nI (by omega) (by omega)) ?_
    refine T_aload_n (pc := 162) d_Lw_law_162 rfl ?_
    refine T_iload_n (pc := 163) d_Lw_law_163 rfl ?_
    refine T_iconst (v := 3) (pc := 164) d_Lw_law_164 rfl ?_
    refine T_iadd (pc := 165) d_Lw_law_165 ?_
    refine T_iald (pc := 166) d_Lw_law_166 hS1 (by rw [show (nI i + 3 : Int32) = nI (i + 3) from nI_add i 3]; exact vp_in_nI (by omega) (by omega)) ?_
    refine T_if_eq (tgt := 174) (pc := 167) d_Lw_law_167 (by decide) (fun q167 => absurd q167 q140) (fun q167 => ?_)
    refine T_iconst (v := 1) (pc := 170) d_Lw_law_170 rfl ?_
    refine T_goto (tgt := 175) (pc := 171) d_Lw_law_171 (by decide) ?_
    refine T_ivV (pc := 175) d_Lw_law_175 sI_Lw_25 (c_Md_field (y := (f (nI i + 1).toNatClampNeg)) (k := (f (nI i + 2).toNatClampNeg)) (rp := true) hM hs hv hu) hM.1 rfl rfl ⟨(Nat.le_of_ble_eq_true rfl), (Nat.le_of_ble_eq_true rfl)⟩ ⟨(Nat.le_of_ble_eq_true rfl), (Nat.le_of_ble_eq_true rfl)⟩ (Nat.le_of_ble_eq_true rfl) (fun r2 h2 q2 => ?_)
    obtain ⟨σ2, ν2, α2, M2, O2, rfl, e2, hs2, hv2, hu2, s2, a2⟩ := q2
    have hS2 : h2 0 = _ := (O2 0 (Or.inl (by decide))).trans hS1
    have Ow2 := Ow.same (h' := h2) O1 (fun q z1 z2 => O2 q (Or.inl (by omega)))
    have Mo2 : Mo h2 91 wf _ _ db ms kl tot run cs ps := ⟨_, _, α2, _, slo, M2, hs2, hv2, hu2, hd.same (s2 18 (by decide)) (a2 11 (by decide)), hne.same (s2 13 (by decide)) (a2 8 (by decide)) (a2 9 (by decide)) (a2 10 (by decide)), hkn.same (s2 21 (by decide)) (a2 12 (by decide)) (a2 13 (by decide)) (a2 14 (by decide)), hc.same (s2 25 (by decide)) (a2 15 (by decide)) (a2 16 (by decide)), hp.same (a2 17 (by decide)) (a2 18 (by decide)) (a2 19 (by decide)) (a2 20 (by decide)), (s2 0 (by decide)).trans ew, (s2 19 (by decide)).trans e19, (s2 20 (by decide)).trans e20⟩
    refine T_icmp_eq (tgt := 535) (pc := 178) d_Lw_law_178 (by decide) (fun q178 => ?_) (fun q178 => absurd q178 (fun z => z rfl))
    exact hK h2 ⟨hS2, _, _, _, _, _, _, _, _, _, _, _, _, Ow2, Mo2, hk, dclN hn h30, vOk_fld hok hv.1, hdb, hms, hps⟩
set_option maxRecDepth 100000 in
set_option maxHeartbeats 4000000 in
theorem law_put {h : aH} {L i : Nat} {f : Nat → Int32} (hR : Rl h L f) (hi : i + 4 ≤ L) (hL : L ≤ 2049) (hK : ∀ h', Rl h' L f → Tri M_Lw_law room_1 ZL 535 [(3, .int (nI i)), (2, .ref 91), (1, .ref 1), (0, .ref 0)] [] 111 h' 111 9914) : Tri M_Lw_law room_1 ZL 183 [(3, .int (nI i)), (2, .ref 91), (1, .ref 1), (0, .ref 0)] [] 111 h 111 9914 := by
  obtain ⟨hS, wf, ns, vs, db, ms, sl, old, kl, tot, run, cs, ps, hO, hMo, hk, hn, hok, hdb, hms, hps⟩ := id hR
  refine T_aload_n (pc := 183) d_Lw_law_183 rfl ?_
  refine T_aload_n (pc := 184) d_Lw_law_184 rfl ?_
  refine T_iload_n (pc := 185) d_Lw_law_185 rfl ?_
  refine T_iconst (v := 1) (pc := 186) d_Lw_law_186 rfl ?_
  refine T_iadd (pc := 187) d_Lw_law_187 ?_
  refine T_iald (pc := 188) d_Lw_law_188 hS (by rw [show (nI i + 1 : Int32) = nI (i + 1) from nI_add i 1]; exact vp_in_nI (by omega) (by omega)) ?_
  refine T_aload_n (pc := 189) d_Lw_law_189 rfl ?_
  refine T_iload_n (pc := 190) d_Lw_law_190 rfl ?_
  refine T_iconst (v := 2) (pc := 191) d_Lw_law_191 rfl ?_
  refine T_iadd (pc := 192) d_Lw_law_192 ?_
  refine T_iald (pc := 193) d_Lw_law_193 hS (by rw [show (nI i + 2 : Int32) = nI (i + 2) from nI_add i 2]; exact vp_in_nI (by omega) (by omega)) ?_
  refine T_ivV (pc := 194) d_Lw_law_194 sI_Lw_26 (c_OW_put hO (f := (f (nI i + 1).toNatClampNeg)) (v := (f (nI i + 2).toNatClampNeg))) hO.1 rfl rfl ⟨(Nat.le_of_ble_eq_true rfl), (Nat.le_of_ble_eq_true rfl)⟩ ⟨(Nat.le_of_ble_eq_true rfl), (Nat.le_of_ble_eq_true rfl)⟩ (Nat.le_of_ble_eq_true rfl) (fun r1 h1 q1 => ?_)
  obtain ⟨rfl, O1, f1⟩ := q1
  have hS1 : h1 0 = _ := (f1 0 (Or.inl (by decide))).trans hS
  have Mo1 := hMo.same (h' := h1) (fun q z1 z2 => f1 q (Or.inr (by omega)))
  obtain ⟨σ, ν, α, svs, slo, hM, hs, hv, hu, hd, hne, hkn, hc, hp, ew, e19, e20⟩ := id Mo1
  have h30 : ∀ t, t ∈ ns → t.1 ≤ 30 := fun t ht => by
    obtain ⟨j, hj⟩ := List.mem_iff_getElem?.mp ht
    exact (hs.2.2 j t hj).2.2.2.2.1
  refine T_aload_n (pc := 197) d_Lw_law_197 rfl ?_
  refine T_aload_n (pc := 198) d_Lw_law_198 rfl ?_
  refine T_iload_n (pc := 199) d_Lw_law_199 rfl ?_
  refine T_iconst (v := 1) (pc := 200) d_Lw_law_200 rfl ?_
  refine T_iadd (pc := 201) d_Lw_law_201 ?_
  refine T_iald (pc := 202) d_Lw_law_202 hS1 (by rw [show (nI i + 1 : Int32) = nI (i + 1) from nI_add i 1]; exact vp_in_nI (by omega) (by omega)) ?_
  refine T_aload_n (pc := 203) d_Lw_law_203 rfl ?_
  refine T_iload_n (pc := 204) d_Lw_law_204 rfl ?_
  refine T_iconst (v := 2) (pc := 205) d_Lw_law_205 rfl ?_
  refine T_iadd (pc := 206) d_Lw_law_206 ?_
  refine T_iald (pc := 207) d_Lw_law_207 hS1 (by rw [show (nI i + 2 : Int32) = nI (i + 2) from nI_add i 2]; exact vp_in_nI (by omega) (by omega)) ?_
  refine T_ivV (pc := 208) d_Lw_law_208 sI_Lw_30 (c_Md_put (f := (f (nI i + 1).toNatClampNeg)) (v := (f (nI i + 2).toNatClampNeg)) hM hs hv) hM.1 rfl rfl ⟨(Nat.le_of_ble_eq_true rfl), (Nat.le_of_ble_eq_true rfl)⟩ ⟨(Nat.le_of_ble_eq_true rfl), (Nat.le_of_ble_eq_true rfl)⟩ (Nat.le_of_ble_eq_true rfl) (fun r2 h2 q2 => ?_)
  obtain ⟨σ2, ν2, α2, M2, O2, e1, e2, a2, rfl, hv2, x4, x5⟩ := q2
  have hS2 : h2 0 = _ := (O2 0 (Or.inl (by decide))).trans hS1
  have Ow2 := Ow.same (h' := h2) O1 (fun q z1 z2 => O2 q (Or.inl (by omega)))
  have s2 : sX [] σ σ := sX.rf
  rw [e2] at M2
  have Mo2 : Mo h2 91 wf ns _ db ms kl tot run cs ps := ⟨_, _, α2, svs, slo, M2, hs.same (s2 1 (by decide)) (a2 1 (by decide)) (a2 2 (by decide)) (a2 3 (by decide)), hv2, hu.off hs.1 (fun q z1 z2 => x4 q (by omega)) (fun q z1 z2 => x5 q (by omega)), hd.same (s2 18 (by decide)) (a2 11 (by decide)), hne.same (s2 13 (by decide)) (a2 8 (by decide)) (a2 9 (by decide)) (a2 10 (by decide)), hkn.same (s2 21 (by decide)) (a2 12 (by decide)) (a2 13 (by decide)) (a2 14 (by decide)), hc.same (s2 25 (by decide)) (a2 15 (by decide)) (a2 16 (by decide)), hp.same (a2 17 (by decide)) (a2 18 (by decide)) (a2 19 (by decide)) (a2 20 (by decide)), (s2 0 (by decide)).trans ew, (s2 19 (by decide)).trans e19, (s2 20 (by decide)).trans e20⟩
  refine T_icmp_eq (tgt := 535) (pc := 211) d_Lw_law_211 (by decide) (fun q211 => ?_) (fun q211 => absurd q211 (fun z => z rfl))
  exact hK h2 ⟨hS2, _, _, _, _, _, _, _, _, _, _, _, _, Ow2, Mo2, hk, hn, vOk_put hok, hdb, hms, hps⟩
set_option maxRecDepth 100000 in
set_option maxHeartbeats 4000000 in
theorem law_reset {h : aH} {L i : Nat} {f : Nat → Int32} (hR : Rl h L f) (hi : i + 4 ≤ L) (hL : L ≤ 2049) (hK : ∀ h', Rl h' L f → Tri M_Lw_law room_1 ZL 535 [(3, .int (nI i)), (2, .ref 91), (1, .ref 1), (0, .ref 0)] [] 111 h' 111 9914) : Tri M_Lw_law room_1 ZL 216 [(3, .int (nI i)), (2, .ref 91), (1, .ref 1), (0, .ref 0)] [] 111 h 111 9914 := by
  obtain ⟨hS, wf, ns, vs, db, ms, sl, old, kl, tot, run, cs, ps, hO, hMo, hk, hn, hok, hdb, hms, hps⟩ := id hR
  refine T_aload_n (pc := 216) d_Lw_law_216 rfl ?_
  refine T_ivV (pc := 217) d_Lw_law_217 sI_Lw_31 (c_OW_reset hO) hO.1 rfl rfl ⟨(Nat.le_of_ble_eq_true rfl), (Nat.le_of_ble_eq_true rfl)⟩ ⟨(Nat.le_of_ble_eq_true rfl), (Nat.le_of_ble_eq_true rfl)⟩ (Nat.le_of_ble_eq_true rfl) (fun r1 h1 q1 => ?_)
  obtain ⟨rfl, O1, f1⟩ := q1
  have hS1 : h1 0 = _ := (f1 0 (Or.inl (by decide))).trans hS
  have Mo1 := hMo.same (h' := h1) (fun q z1 z2 => f1 q (Or.inr (by omega)))
  obtain ⟨σ, ν, α, svs, slo, hM, hs, hv, hu, hd, hne, hkn, hc, hp, ew, e19, e20⟩ := id Mo1
  have h30 : ∀ t, t ∈ ns → t.1 ≤ 30 := fun t ht => by
    obtain ⟨j, hj⟩ := List.mem_iff_getElem?.mp ht
    exact (hs.2.2 j t hj).2.2.2.2.1
  refine T_aload_n (pc := 220) d_Lw_law_220 rfl ?_
  refine T_ivV (pc := 221) d_Lw_law_221 sI_Lw_34 (c_Md_reset hM hs hv) hM.1 rfl rfl ⟨(Nat.le_of_ble_eq_true rfl), (Nat.le_of_ble_eq_true rfl)⟩ ⟨(Nat.le_of_ble_eq_true rfl), (Nat.le_of_ble_eq_true rfl)⟩ (Nat.le_of_ble_eq_true rfl) (fun r2 h2 q2 => ?_)
  obtain ⟨σ2, ν2, α2, M2, O2, rfl, e1, e2, a2, hv2, x4, x5⟩ := q2
  have hS2 : h2 0 = _ := (O2 0 (Or.inl (by decide))).trans hS1
  have Ow2 := Ow.same (h' := h2) O1 (fun q z1 z2 => O2 q (Or.inl (by omega)))
  have s2 : sX [] σ σ := sX.rf
  rw [e2] at M2
  have Mo2 : Mo h2 91 wf ns _ db ms kl tot run cs ps := ⟨_, _, α2, svs, slo, M2, hs.same (s2 1 (by decide)) (a2 1 (by decide)) (a2 2 (by decide)) (a2 3 (by decide)), hv2, hu.off hs.1 (fun q z1 z2 => x4 q (by omega)) (fun q z1 z2 => x5 q (by omega)), hd.same (s2 18 (by decide)) (a2 11 (by decide)), hne.same (s2 13 (by decide)) (a2 8 (by decide)) (a2 9 (by decide)) (a2 10 (by decide)), hkn.same (s2 21 (by decide)) (a2 12 (by decide)) (a2 13 (by decide)) (a2 14 (by decide)), hc.same (s2 25 (by decide)) (a2 15 (by decide)) (a2 16 (by decide)), hp.same (a2 17 (by decide)) (a2 18 (by decide)) (a2 19 (by decide)) (a2 20 (by decide)), (s2 0 (by decide)).trans ew, (s2 19 (by decide)).trans e19, (s2 20 (by decide)).trans e20⟩
  refine T_goto (tgt := 535) (pc := 224) d_Lw_law_224 (by decide) ?_
  exact hK h2 ⟨hS2, _, _, _, _, _, _, _, _, _, _, _, _, Ow2, Mo2, hk, hn, vOk_nil ns, hdb, hms, hps⟩
set_option maxRecDepth 100000 in
set_option maxHeartbeats 4000000 in
theorem law_call {h : aH} {L i : Nat} {f : Nat → Int32} (hR : Rl h L f) (hi : i + 4 ≤ L) (hL : L ≤ 2049) (hK : ∀ h', Rl h' L f → Tri M_Lw_law room_1 ZL 535 [(3, .int (nI i)), (2, .ref 91), (1, .ref 1), (0, .ref 0)] [] 111 h' 111 9914) : Tri M_Lw_law room_1 ZL 227 [(3, .int (nI i)), (2, .ref 91), (1, .ref 1), (0, .ref 0)] [] 111 h 111 9914 := by
  obtain ⟨hS, wf, ns, vs, db, ms, sl, old, kl, tot, run, cs, ps, hO, hMo, hk, hn, hok, hdb, hms, hps⟩ := id hR
  refine T_aload_n (pc := 227) d_Lw_law_227 rfl ?_
  refine T_aload_n (pc := 228) d_Lw_law_228 rfl ?_
  refine T_iload_n (pc := 229) d_Lw_law_229 rfl ?_
  refine T_iconst (v := 1) (pc := 230) d_Lw_law_230 rfl ?_
  refine T_iadd (pc := 231) d_Lw_law_231 ?_
  refine T_iald (pc := 232) d_Lw_law_232 hS (by rw [show (nI i + 1 : Int32) = nI (i + 1) from nI_add i 1]; exact vp_in_nI (by omega) (by omega)) ?_
  refine T_ivV (pc := 233) d_Lw_law_233 sI_Lw_35 (c_OW_call hO (pr := (f (nI i + 1).toNatClampNeg))) hO.1 rfl rfl ⟨(Nat.le_of_ble_eq_true rfl), (Nat.le_of_ble_eq_true rfl)⟩ ⟨(Nat.le_of_ble_eq_true rfl), (Nat.le_of_ble_eq_true rfl)⟩ (Nat.le_of_ble_eq_true rfl) (fun r1 h1 q1 => ?_)
  obtain ⟨rfl, O1, f1⟩ := q1
  have hS1 : h1 0 = _ := (f1 0 (Or.inl (by decide))).trans hS
  have Mo1 := hMo.same (h' := h1) (fun q z1 z2 => f1 q (Or.inr (by omega)))
  obtain ⟨σ, ν, α, svs, slo, hM, hs, hv, hu, hd, hne, hkn, hc, hp, ew, e19, e20⟩ := id Mo1
  have h30 : ∀ t, t ∈ ns → t.1 ≤ 30 := fun t ht => by
    obtain ⟨j, hj⟩ := List.mem_iff_getElem?.mp ht
    exact (hs.2.2 j t hj).2.2.2.2.1
  refine T_aload_n (pc := 236) d_Lw_law_236 rfl ?_
  refine T_aload_n (pc := 237) d_Lw_law_237 rfl ?_
  refine T_iload_n (pc := 238) d_Lw_law_238 rfl ?_
  refine T_iconst (v := 1) (pc := 239) d_Lw_law_239 rfl ?_
  refine T_iadd (pc := 240) d_Lw_law_240 ?_
  refine T_iald (pc := 241) d_Lw_law_241 hS1 (by rw [show (nI i + 1 : Int32) = nI (i + 1) from nI_add i 1]; exact vp_in_nI (by omega) (by omega)) ?_
  refine T_ivV (pc := 242) d_Lw_law_242 sI_Lw_39 (c_Md_call (pr := (f (nI i + 1).toNatClampNeg)) hM hs hv ew hok hc hp hne) hM.1 rfl rfl ⟨(Nat.le_of_ble_eq_true rfl), (Nat.le_of_ble_eq_true rfl)⟩ ⟨(Nat.le_of_ble_eq_true rfl), (Nat.le_of_ble_eq_true rfl)⟩ (Nat.le_of_ble_eq_true rfl) (fun r2 h2 q2 => ?_)
  obtain ⟨σ2, ν2, α2, M2, O2, rfl, hc2, ⟨sl2, hp2⟩, hne2, s2, a2⟩ := q2
  have hS2 : h2 0 = _ := (O2 0 (Or.inl (by decide))).trans hS1
  have Ow2 := Ow.same (h' := h2) O1 (fun q z1 z2 => O2 q (Or.inl (by omega)))
  have Mo2 : Mo h2 91 wf ns vs db _ kl tot run _ _ := ⟨_, _, α2, svs, sl2, M2, hs.same (s2 1 (by decide)) (a2 1 (by decide)) (a2 2 (by decide)) (a2 3 (by decide)), hv.same (a2 4 (by decide)) (a2 5 (by decide)), hu.same (a2 4 (by decide)) (a2 5 (by decide)), hd.same (s2 18 (by decide)) (a2 11 (by decide)), hne2, hkn.same (s2 21 (by decide)) (a2 12 (by decide)) (a2 13 (by decide)) (a2 14 (by decide)), hc2, hp2, (s2 0 (by decide)).trans ew, (s2 19 (by decide)).trans e19, (s2 20 (by decide)).trans e20⟩
  refine T_icmp_eq (tgt := 535) (pc := 245) d_Lw_law_245 (by decide) (fun q245 => ?_) (fun q245 => absurd q245 (fun z => z rfl))
  exact hK h2 ⟨hS2, _, _, _, _, _, _, _, _, _, _, _, _, Ow2, Mo2, hk, hn, hok, hdb, (plB h30 hps hms).2, (plB h30 hps hms).1⟩
set_option maxRecDepth 100000 in
set_option maxHeartbeats 4000000 in
theorem law_tick {h : aH} {L i : Nat} {f : Nat → Int32} (hR : Rl h L f) (hi : i + 4 ≤ L) (hL : L ≤ 2049) (hK : ∀ h', Rl h' L f → Tri M_Lw_law room_1 ZL 535 [(3, .int (nI i)), (2, .ref 91), (1, .ref 1), (0, .ref 0)] [] 111 h' 111 9914) : Tri M_Lw_law room_1 ZL 250 [(3, .int (nI i)), (2, .ref 91), (1, .ref 1), (0, .ref 0)] [] 111 h 111 9914 := by
  obtain ⟨hS, wf, ns, vs, db, ms, sl, old, kl, tot, run, cs, ps, hO, hMo, hk, hn, hok, hdb, hms, hps⟩ := id hR
  refine T_aload_n (pc := 250) d_Lw_law_250 rfl ?_
  refine T_ivV (pc := 251) d_Lw_law_251 sI_Lw_40 (c_OW_tick hO) hO.1 rfl rfl ⟨(Nat.le_of_ble_eq_true rfl), (Nat.le_of_ble_eq_true rfl)⟩ ⟨(Nat.le_of_ble_eq_true rfl), (Nat.le_of_ble_eq_true rfl)⟩ (Nat.le_of_ble_eq_true rfl) (fun r1 h1 q1 => ?_)
  obtain ⟨rfl, O1, f1⟩ := q1
  have hS1 : h1 0 = _ := (f1 0 (Or.inl (by decide))).trans hS
  have Mo1 := hMo.same (h' := h1) (fun q z1 z2 => f1 q (Or.inr (by omega)))
  obtain ⟨σ, ν, α, svs, slo, hM, hs, hv, hu, hd, hne, hkn, hc, hp, ew, e19, e20⟩ := id Mo1
  have h30 : ∀ t, t ∈ ns → t.1 ≤ 30 := fun t ht => by
    obtain ⟨j, hj⟩ := List.mem_iff_getElem?.mp ht
    exact (hs.2.2 j t hj).2.2.2.2.1
  refine T_aload_n (pc := 254) d_Lw_law_254 rfl ?_
  refine T_ivV (pc := 255) d_Lw_law_255 sI_Lw_44 (c_Md_tick hM hc hp hne) hM.1 rfl rfl ⟨(Nat.le_of_ble_eq_true rfl), (Nat.le_of_ble_eq_true rfl)⟩ ⟨(Nat.le_of_ble_eq_true rfl), (Nat.le_of_ble_eq_true rfl)⟩ (Nat.le_of_ble_eq_true rfl) (fun r2 h2 q2 => ?_)
  obtain ⟨σ2, ν2, α2, M2, O2, rfl, ⟨sl2, hp2⟩, hne2, s2, a2⟩ := q2
  have hS2 : h2 0 = _ := (O2 0 (Or.inl (by decide))).trans hS1
  have Ow2 := Ow.same (h' := h2) O1 (fun q z1 z2 => O2 q (Or.inl (by omega)))
  have Mo2 : Mo h2 91 wf ns vs db _ kl tot run cs _ := ⟨_, _, α2, svs, sl2, M2, hs.same (s2 1 (by decide)) (a2 1 (by decide)) (a2 2 (by decide)) (a2 3 (by decide)), hv.same (a2 4 (by decide)) (a2 5 (by decide)), hu.same (a2 4 (by decide)) (a2 5 (by decide)), hd.same (s2 18 (by decide)) (a2 11 (by decide)), hne2, hkn.same (s2 21 (by decide)) (a2 12 (by decide)) (a2 13 (by decide)) (a2 14 (by decide)), hc.same (s2 25 (by decide)) (a2 15 (by decide)) (a2 16 (by decide)), hp2, (s2 0 (by decide)).trans ew, (s2 19 (by decide)).trans e19, (s2 20 (by decide)).trans e20⟩
  refine T_icmp_eq (tgt := 535) (pc := 258) d_Lw_law_258 (by decide) (fun q258 => ?_) (fun q258 => absurd q258 (fun z => z rfl))
  exact hK h2 ⟨hS2, _, _, _, _, _, _, _, _, _, _, _, _, Ow2, Mo2, hk, hn, hok, hdb, (goB ps ms 0 hps hms).2, (goB ps ms 0 hps hms).1⟩
set_option maxRecDepth 100000 in
set_option maxHeartbeats 4000000 in
theorem law_deliver {h : aH} {L i : Nat} {f : Nat → Int32} (hR : Rl h L f) (hi : i + 4 ≤ L) (hL : L ≤ 2049) (hK : ∀ h', Rl h' L f → Tri M_Lw_law room_1 ZL 535 [(3, .int (nI i)), (2, .ref 91), (1, .ref 1), (0, .ref 0)] [] 111 h' 111 9914) : Tri M_Lw_law room_1 ZL 263 [(3, .int (nI i)), (2, .ref 91), (1, .ref 1), (0, .ref 0)] [] 111 h 111 9914 := by
  obtain ⟨hS, wf, ns, vs, db, ms, sl, old, kl, tot, run, cs, ps, hO, hMo, hk, hn, hok, hdb, hms, hps⟩ := id hR
  refine T_aload_n (pc := 263) d_Lw_law_263 rfl ?_
  refine T_aload_n (pc := 264) d_Lw_law_264 rfl ?_
  refine T_iload_n (pc := 265) d_Lw_law_265 rfl ?_
  refine T_iconst (v := 1) (pc := 266) d_Lw_law_266 rfl ?_
  refine T_iadd (pc := 267) d_Lw_law_267 ?_
  refine T_iald (pc := 268) d_Lw_law_268 hS (by rw [show (nI i + 1 : Int32) = nI (i + 1) from nI_add i 1]; exact vp_in_nI (by omega) (by omega)) ?_
  refine T_ivV (pc := 269) d_Lw_law_269 sI_Lw_45 (c_OW_deliver hO (k := (f (nI i + 1).toNatClampNeg))) hO.1 rfl rfl ⟨(Nat.le_of_ble_eq_true rfl), (Nat.le_of_ble_eq_true rfl)⟩ ⟨(Nat.le_of_ble_eq_true rfl), (Nat.le_of_ble_eq_true rfl)⟩ (Nat.le_of_ble_eq_true rfl) (fun r1 h1 q1 => ?_)
  obtain ⟨rfl, O1, f1⟩ := q1
  have hS1 : h1 0 = _ := (f1 0 (Or.inl (by decide))).trans hS
  have Mo1 := hMo.same (h' := h1) (fun q z1 z2 => f1 q (Or.inr (by omega)))
  obtain ⟨σ, ν, α, svs, slo, hM, hs, hv, hu, hd, hne, hkn, hc, hp, ew, e19, e20⟩ := id Mo1
  have h30 : ∀ t, t ∈ ns → t.1 ≤ 30 := fun t ht => by
    obtain ⟨j, hj⟩ := List.mem_iff_getElem?.mp ht
    exact (hs.2.2 j t hj).2.2.2.2.1
  refine T_aload_n (pc := 272) d_Lw_law_272 rfl ?_
  refine T_aload_n (pc := 273) d_Lw_law_273 rfl ?_
  refine T_iload_n (pc := 274) d_Lw_law_274 rfl ?_
  refine T_iconst (v := 1) (pc := 275) d_Lw_law_275 rfl ?_
  refine T_iadd (pc := 276) d_Lw_law_276 ?_
  refine T_iald (pc := 277) d_Lw_law_277 hS1 (by rw [show (nI i + 1 : Int32) = nI (i + 1) from nI_add i 1]; exact vp_in_nI (by omega) (by omega)) ?_
  refine T_ivV (pc := 278) d_Lw_law_278 sI_Lw_48 (c_Mo_deliver (k := (f (nI i + 1).toNatClampNeg)) Mo1 hn hms) hM.1 rfl rfl ⟨(Nat.le_of_ble_eq_true rfl), (Nat.le_of_ble_eq_true rfl)⟩ ⟨(Nat.le_of_ble_eq_true rfl), (Nat.le_of_ble_eq_true rfl)⟩ (Nat.le_of_ble_eq_true rfl) (fun r2 h2 q2 => ?_)
  obtain ⟨rfl, Mo2, O2⟩ := q2
  have hS2 : h2 0 = _ := (O2 0 (Or.inl (by decide))).trans hS1
  have Ow2 := Ow.same (h' := h2) O1 (fun q z1 z2 => O2 q (Or.inl (by omega)))
  obtain ⟨g1, g2, g3, g4, g5, g6, g7⟩ := dlv_md (k := (f (nI i + 1).toNatClampNeg)) (wf := wf) (ns := ns) (tot := tot) (run := run) (cs := cs) (ps := ps) hk (fun g hg => by
    obtain ⟨j, hj⟩ := List.mem_iff_getElem?.mp hg
    have := (hne.2.2 j g hj).1
    omega)
  have hB := mdB (wf := wf) (ns := ns) (kl := kl) (tot := tot) (run := run) (cs := cs) (k := (f (nI i + 1).toNatClampNeg)) hms hps
  have Ow3 : Ow h2 1 wf ns vs db (dlvF wf ns ms sl old tot run cs ps (f (nI i + 1).toNatClampNeg)).2.2.2.2.2.1 (dlvF wf ns ms sl old tot run cs ps (f (nI i + 1).toNatClampNeg)).2.1 (dlvF wf ns ms sl old tot run cs ps (f (nI i + 1).toNatClampNeg)).2.2.1 (dlvF wf ns ms sl old tot run cs ps (f (nI i + 1).toNatClampNeg)).2.2.2.1 (dlvF wf ns ms sl old tot run cs ps (f (nI i + 1).toNatClampNeg)).2.2.2.2.1 (dlvF wf ns ms sl old tot run cs ps (f (nI i + 1).toNatClampNeg)).2.2.2.2.2.2.1 (dlvF wf ns ms sl old tot run cs ps (f (nI i + 1).toNatClampNeg)).2.2.2.2.2.2.2 := Ow2
  rw [g3, g4, g5, g6, g7] at Ow3
  refine T_icmp_eq (tgt := 535) (pc := 281) d_Lw_law_281 (by decide) (fun q281 => ?_) (fun q281 => absurd q281 (fun z => z g1))
  exact hK h2 ⟨hS2, _, _, _, _, _, _, _, _, _, _, _, _, Ow3, Mo2, g2, hn, hok, hdb, hB.1, hB.2⟩
set_option maxRecDepth 100000 in
set_option maxHeartbeats 4000000 in
theorem law_lose {h : aH} {L i : Nat} {f : Nat → Int32} (hR : Rl h L f) (hi : i + 4 ≤ L) (hL : L ≤ 2049) (hK : ∀ h', Rl h' L f → Tri M_Lw_law room_1 ZL 535 [(3, .int (nI i)), (2, .ref 91), (1, .ref 1), (0, .ref 0)] [] 111 h' 111 9914) : Tri M_Lw_law room_1 ZL 286 [(3, .int (nI i)), (2, .ref 91), (1, .ref 1), (0, .ref 0)] [] 111 h 111 9914 := by
  obtain ⟨hS, wf, ns, vs, db, ms, sl, old, kl, tot, run, cs, ps, hO, hMo, hk, hn, hok, hdb, hms, hps⟩ := id hR
  refine T_aload_n (pc := 286) d_Lw_law_286 rfl ?_
  refine T_aload_n (pc := 287) d_Lw_law_287 rfl ?_
  refine T_iload_n (pc := 288) d_Lw_law_288 rfl ?_
  refine T_iconst (v := 1) (pc := 289) d_Lw_law_289 rfl ?_
  refine T_iadd (pc := 290) d_Lw_law_290 ?_
  refine T_iald (pc := 291) d_Lw_law_291 hS (by rw [show (nI i + 1 : Int32) = nI (i + 1) from nI_add i 1]; exact vp_in_nI (by omega) (by omega)) ?_
  refine T_ivV (pc := 292) d_Lw_law_292 sI_Lw_49 (c_OW_lose hO (k := (f (nI i + 1).toNatClampNeg))) hO.1 rfl rfl ⟨(Nat.le_of_ble_eq_true rfl), (Nat.le_of_ble_eq_true rfl)⟩ ⟨(Nat.le_of_ble_eq_true rfl), (Nat.le_of_ble_eq_true rfl)⟩ (Nat.le_of_ble_eq_true rfl) (fun r1 h1 q1 => ?_)
  obtain ⟨rfl, O1, f1⟩ := q1
  have hS1 : h1 0 = _ := (f1 0 (Or.inl (by decide))).trans hS
  have Mo1 := hMo.same (h' := h1) (fun q z1 z2 => f1 q (Or.inr (by omega)))
  obtain ⟨σ, ν, α, svs, slo, hM, hs, hv, hu, hd, hne, hkn, hc, hp, ew, e19, e20⟩ := id Mo1
  have h30 : ∀ t, t ∈ ns → t.1 ≤ 30 := fun t ht => by
    obtain ⟨j, hj⟩ := List.mem_iff_getElem?.mp ht
    exact (hs.2.2 j t hj).2.2.2.2.1
  refine T_aload_n (pc := 295) d_Lw_law_295 rfl ?_
  refine T_aload_n (pc := 296) d_Lw_law_296 rfl ?_
  refine T_iload_n (pc := 297) d_Lw_law_297 rfl ?_
  refine T_iconst (v := 1) (pc := 298) d_Lw_law_298 rfl ?_
  refine T_iadd (pc := 299) d_Lw_law_299 ?_
  refine T_iald (pc := 300) d_Lw_law_300 hS1 (by rw [show (nI i + 1 : Int32) = nI (i + 1) from nI_add i 1]; exact vp_in_nI (by omega) (by omega)) ?_
  refine T_ivV (pc := 301) d_Lw_law_301 sI_Lw_53 (c_Md_lose (k := (f (nI i + 1).toNatClampNeg)) hM hne) hM.1 rfl rfl ⟨(Nat.le_of_ble_eq_true rfl), (Nat.le_of_ble_eq_true rfl)⟩ ⟨(Nat.le_of_ble_eq_true rfl), (Nat.le_of_ble_eq_true rfl)⟩ (Nat.le_of_ble_eq_true rfl) (fun r2 h2 q2 => ?_)
  obtain ⟨σ2, ν2, α2, M2, O2, rfl, e2, hne2, s2, a2⟩ := q2
  have hS2 : h2 0 = _ := (O2 0 (Or.inl (by decide))).trans hS1
  have Ow2 := Ow.same (h' := h2) O1 (fun q z1 z2 => O2 q (Or.inl (by omega)))
  have hB : msB (if 0 ≤ (f (nI i + 1).toNatClampNeg) ∧ (f (nI i + 1).toNatClampNeg) < nI ms.length then ms.eraseIdx (f (nI i + 1).toNatClampNeg).toNatClampNeg else ms) := by
    split
    · exact hms.er _
    · exact hms
  have Mo2 : Mo h2 91 wf ns vs db _ kl tot run cs ps := ⟨_, _, α2, svs, slo, M2, hs.same (s2 1 (by decide)) (a2 1 (by decide)) (a2 2 (by decide)) (a2 3 (by decide)), hv.same (a2 4 (by decide)) (a2 5 (by decide)), hu.same (a2 4 (by decide)) (a2 5 (by decide)), hd.same (s2 18 (by decide)) (a2 11 (by decide)), hne2, hkn.same (s2 21 (by decide)) (a2 12 (by decide)) (a2 13 (by decide)) (a2 14 (by decide)), hc.same (s2 25 (by decide)) (a2 15 (by decide)) (a2 16 (by decide)), hp.same (a2 17 (by decide)) (a2 18 (by decide)) (a2 19 (by decide)) (a2 20 (by decide)), (s2 0 (by decide)).trans ew, (s2 19 (by decide)).trans e19, (s2 20 (by decide)).trans e20⟩
  refine T_icmp_eq (tgt := 535) (pc := 304) d_Lw_law_304 (by decide) (fun q304 => ?_) (fun q304 => absurd q304 (fun z => z rfl))
  exact hK h2 ⟨hS2, _, _, _, _, _, _, _, _, _, _, _, _, Ow2, Mo2, hk, hn, hok, hdb, hB, hps⟩
set_option maxRecDepth 100000 in
set_option maxHeartbeats 4000000 in
theorem law_copy {h : aH} {L i : Nat} {f : Nat → Int32} (hR : Rl h L f) (hi : i + 4 ≤ L) (hL : L ≤ 2049) (hK : ∀ h', Rl h' L f → Tri M_Lw_law room_1 ZL 535 [(3, .int (nI i)), (2, .ref 91), (1, .ref 1), (0, .ref 0)] [] 111 h' 111 9914) : Tri M_Lw_law room_1 ZL 309 [(3, .int (nI i)), (2, .ref 91), (1, .ref 1), (0, .ref 0)] [] 111 h 111 9914 := by
  obtain ⟨hS, wf, ns, vs, db, ms, sl, old, kl, tot, run, cs, ps, hO, hMo, hk, hn, hok, hdb, hms, hps⟩ := id hR
  refine T_aload_n (pc := 309) d_Lw_law_309 rfl ?_
  refine T_aload_n (pc := 310) d_Lw_law_310 rfl ?_
  refine T_iload_n (pc := 311) d_Lw_law_311 rfl ?_
  refine T_iconst (v := 1) (pc := 312) d_Lw_law_312 rfl ?_
  refine T_iadd (pc := 313) d_Lw_law_313 ?_
  refine T_iald (pc := 314) d_Lw_law_314 hS (by rw [show (nI i + 1 : Int32) = nI (i + 1) from nI_add i 1]; exact vp_in_nI (by omega) (by omega)) ?_
  refine T_ivV (pc := 315) d_Lw_law_315 sI_Lw_54 (c_OW_copy hO (k := (f (nI i + 1).toNatClampNeg))) hO.1 rfl rfl ⟨(Nat.le_of_ble_eq_true rfl), (Nat.le_of_ble_eq_true rfl)⟩ ⟨(Nat.le_of_ble_eq_true rfl), (Nat.le_of_ble_eq_true rfl)⟩ (Nat.le_of_ble_eq_true rfl) (fun r1 h1 q1 => ?_)
  obtain ⟨rfl, O1, f1⟩ := q1
  have hS1 : h1 0 = _ := (f1 0 (Or.inl (by decide))).trans hS
  have Mo1 := hMo.same (h' := h1) (fun q z1 z2 => f1 q (Or.inr (by omega)))
  obtain ⟨σ, ν, α, svs, slo, hM, hs, hv, hu, hd, hne, hkn, hc, hp, ew, e19, e20⟩ := id Mo1
  have h30 : ∀ t, t ∈ ns → t.1 ≤ 30 := fun t ht => by
    obtain ⟨j, hj⟩ := List.mem_iff_getElem?.mp ht
    exact (hs.2.2 j t hj).2.2.2.2.1
  refine T_aload_n (pc := 318) d_Lw_law_318 rfl ?_
  refine T_aload_n (pc := 319) d_Lw_law_319 rfl ?_
  refine T_iload_n (pc := 320) d_Lw_law_320 rfl ?_
  refine T_iconst (v := 1) (pc := 321) d_Lw_law_321 rfl ?_
  refine T_iadd (pc := 322) d_Lw_law_322 ?_
  refine T_iald (pc := 323) d_Lw_law_323 hS1 (by rw [show (nI i + 1 : Int32) = nI (i + 1) from nI_add i 1]; exact vp_in_nI (by omega) (by omega)) ?_
  refine T_ivV (pc := 324) d_Lw_law_324 sI_Lw_57 (c_Md_copy (k := (f (nI i + 1).toNatClampNeg)) hM hne) hM.1 rfl rfl ⟨(Nat.le_of_ble_eq_true rfl), (Nat.le_of_ble_eq_true rfl)⟩ ⟨(Nat.le_of_ble_eq_true rfl), (Nat.le_of_ble_eq_true rfl)⟩ (Nat.le_of_ble_eq_true rfl) (fun r2 h2 q2 => ?_)
  obtain ⟨σ2, ν2, α2, M2, O2, rfl, e2, hne2, s2, a2⟩ := q2
  have hS2 : h2 0 = _ := (O2 0 (Or.inl (by decide))).trans hS1
  have Ow2 := Ow.same (h' := h2) O1 (fun q z1 z2 => O2 q (Or.inl (by omega)))
  have Mo2 : Mo h2 91 wf ns vs db _ kl tot run cs ps := ⟨_, _, α2, svs, slo, M2, hs.same (s2 1 (by decide)) (a2 1 (by decide)) (a2 2 (by decide)) (a2 3 (by decide)), hv.same (a2 4 (by decide)) (a2 5 (by decide)), hu.same (a2 4 (by decide)) (a2 5 (by decide)), hd.same (s2 18 (by decide)) (a2 11 (by decide)), hne2, hkn.same (s2 21 (by decide)) (a2 12 (by decide)) (a2 13 (by decide)) (a2 14 (by decide)), hc.same (s2 25 (by decide)) (a2 15 (by decide)) (a2 16 (by decide)), hp.same (a2 17 (by decide)) (a2 18 (by decide)) (a2 19 (by decide)) (a2 20 (by decide)), (s2 0 (by decide)).trans ew, (s2 19 (by decide)).trans e19, (s2 20 (by decide)).trans e20⟩
  refine T_icmp_eq (tgt := 535) (pc := 327) d_Lw_law_327 (by decide) (fun q327 => ?_) (fun q327 => absurd q327 (fun z => z rfl))
  exact hK h2 ⟨hS2, _, _, _, _, _, _, _, _, _, _, _, _, Ow2, Mo2, hk, hn, hok, hdb, cpB hms, hps⟩
set_option maxRecDepth 100000 in
set_option maxHeartbeats 4000000 in
theorem law_add {h : aH} {L i : Nat} {f : Nat → Int32} (hR : Rl h L f) (hi : i + 4 ≤ L) (hL : L ≤ 2049) (hK : ∀ h', Rl h' L f → Tri M_Lw_law room_1 ZL 535 [(3, .int (nI i)), (2, .ref 91), (1, .ref 1), (0, .ref 0)] [] 111 h' 111 9914) : Tri M_Lw_law room_1 ZL 332 [(3, .int (nI i)), (2, .ref 91), (1, .ref 1), (0, .ref 0)] [] 111 h 111 9914 := by
  obtain ⟨hS, wf, ns, vs, db, ms, sl, old, kl, tot, run, cs, ps, hO, hMo, hk, hn, hok, hdb, hms, hps⟩ := id hR
  refine T_aload_n (pc := 332) d_Lw_law_332 rfl ?_
  refine T_aload_n (pc := 333) d_Lw_law_333 rfl ?_
  refine T_iload_n (pc := 334) d_Lw_law_334 rfl ?_
  refine T_iconst (v := 1) (pc := 335) d_Lw_law_335 rfl ?_
  refine T_iadd (pc := 336) d_Lw_law_336 ?_
  refine T_iald (pc := 337) d_Lw_law_337 hS (by rw [show (nI i + 1 : Int32) = nI (i + 1) from nI_add i 1]; exact vp_in_nI (by omega) (by omega)) ?_
  refine T_ivV (pc := 338) d_Lw_law_338 sI_Lw_58 (c_OW_add hO (b := (f (nI i + 1).toNatClampNeg))) hO.1 rfl rfl ⟨(Nat.le_of_ble_eq_true rfl), (Nat.le_of_ble_eq_true rfl)⟩ ⟨(Nat.le_of_ble_eq_true rfl), (Nat.le_of_ble_eq_true rfl)⟩ (Nat.le_of_ble_eq_true rfl) (fun r1 h1 q1 => ?_)
  obtain ⟨rfl, O1, f1⟩ := q1
  have hS1 : h1 0 = _ := (f1 0 (Or.inl (by decide))).trans hS
  have Mo1 := hMo.same (h' := h1) (fun q z1 z2 => f1 q (Or.inr (by omega)))
  obtain ⟨σ, ν, α, svs, slo, hM, hs, hv, hu, hd, hne, hkn, hc, hp, ew, e19, e20⟩ := id Mo1
  have h30 : ∀ t, t ∈ ns → t.1 ≤ 30 := fun t ht => by
    obtain ⟨j, hj⟩ := List.mem_iff_getElem?.mp ht
    exact (hs.2.2 j t hj).2.2.2.2.1
  refine T_aload_n (pc := 341) d_Lw_law_341 rfl ?_
  refine T_aload_n (pc := 342) d_Lw_law_342 rfl ?_
  refine T_iload_n (pc := 343) d_Lw_law_343 rfl ?_
  refine T_iconst (v := 1) (pc := 344) d_Lw_law_344 rfl ?_
  refine T_iadd (pc := 345) d_Lw_law_345 ?_
  refine T_iald (pc := 346) d_Lw_law_346 hS1 (by rw [show (nI i + 1 : Int32) = nI (i + 1) from nI_add i 1]; exact vp_in_nI (by omega) (by omega)) ?_
  refine T_ivV (pc := 347) d_Lw_law_347 sI_Lw_61 (c_Md_add (b := (f (nI i + 1).toNatClampNeg)) hM hd) hM.1 rfl rfl ⟨(Nat.le_of_ble_eq_true rfl), (Nat.le_of_ble_eq_true rfl)⟩ ⟨(Nat.le_of_ble_eq_true rfl), (Nat.le_of_ble_eq_true rfl)⟩ (Nat.le_of_ble_eq_true rfl) (fun r2 h2 q2 => ?_)
  obtain ⟨σ2, ν2, α2, M2, O2, rfl, e2, hd2, s2, a2⟩ := q2
  have hS2 : h2 0 = _ := (O2 0 (Or.inl (by decide))).trans hS1
  have Ow2 := Ow.same (h' := h2) O1 (fun q z1 z2 => O2 q (Or.inl (by omega)))
  have Mo2 : Mo h2 91 wf ns vs _ ms kl tot run cs ps := ⟨_, _, α2, svs, slo, M2, hs.same (s2 1 (by decide)) (a2 1 (by decide)) (a2 2 (by decide)) (a2 3 (by decide)), hv.same (a2 4 (by decide)) (a2 5 (by decide)), hu.same (a2 4 (by decide)) (a2 5 (by decide)), hd2, hne.same (s2 13 (by decide)) (a2 8 (by decide)) (a2 9 (by decide)) (a2 10 (by decide)), hkn.same (s2 21 (by decide)) (a2 12 (by decide)) (a2 13 (by decide)) (a2 14 (by decide)), hc.same (s2 25 (by decide)) (a2 15 (by decide)) (a2 16 (by decide)), hp.same (a2 17 (by decide)) (a2 18 (by decide)) (a2 19 (by decide)) (a2 20 (by decide)), (s2 0 (by decide)).trans ew, (s2 19 (by decide)).trans e19, (s2 20 (by decide)).trans e20⟩
  refine T_icmp_eq (tgt := 535) (pc := 350) d_Lw_law_350 (by decide) (fun q350 => ?_) (fun q350 => absurd q350 (fun z => z rfl))
  exact hK h2 ⟨hS2, _, _, _, _, _, _, _, _, _, _, _, _, Ow2, Mo2, hk, hn, hok, adB hdb, hms, hps⟩
set_option maxRecDepth 100000 in
set_option maxHeartbeats 4000000 in
theorem law_hand {h : aH} {L i : Nat} {f : Nat → Int32} (hR : Rl h L f) (hi : i + 4 ≤ L) (hL : L ≤ 2049) (hK : ∀ h', Rl h' L f → Tri M_Lw_law room_1 ZL 535 [(3, .int (nI i)), (2, .ref 91), (1, .ref 1), (0, .ref 0)] [] 111 h' 111 9914) : Tri M_Lw_law room_1 ZL 355 [(3, .int (nI i)), (2, .ref 91), (1, .ref 1), (0, .ref 0)] [] 111 h 111 9914 := by
  obtain ⟨hS, wf, ns, vs, db, ms, sl, old, kl, tot, run, cs, ps, hO, hMo, hk, hn, hok, hdb, hms, hps⟩ := id hR
  refine T_aload_n (pc := 355) d_Lw_law_355 rfl ?_
  refine T_aload_n (pc := 356) d_Lw_law_356 rfl ?_
  refine T_iload_n (pc := 357) d_Lw_law_357 rfl ?_
  refine T_iconst (v := 1) (pc := 358) d_Lw_law_358 rfl ?_
  refine T_iadd (pc := 359) d_Lw_law_359 ?_
  refine T_iald (pc := 360) d_Lw_law_360 hS (by rw [show (nI i + 1 : Int32) = nI (i + 1) from nI_add i 1]; exact vp_in_nI (by omega) (by omega)) ?_
  refine T_if_eq (tgt := 368) (pc := 361) d_Lw_law_361 (by decide) (fun q361 => ?_) (fun q361 => ?_)
  · skip
    refine T_iconst (v := 0) (pc := 368) d_Lw_law_368 rfl ?_
    refine T_ivV (pc := 369) d_Lw_law_369 sI_Lw_62 (c_OW_hand hO (b := false)) hO.1 rfl rfl ⟨(Nat.le_of_ble_eq_true rfl), (Nat.le_of_ble_eq_true rfl)⟩ ⟨(Nat.le_of_ble_eq_true rfl), (Nat.le_of_ble_eq_true rfl)⟩ (Nat.le_of_ble_eq_true rfl) (fun r1 h1 q1 => ?_)
    obtain ⟨rfl, O1, f1⟩ := q1
    have hS1 : h1 0 = _ := (f1 0 (Or.inl (by decide))).trans hS
    have Mo1 := hMo.same (h' := h1) (fun q z1 z2 => f1 q (Or.inr (by omega)))
    obtain ⟨σ, ν, α, svs, slo, hM, hs, hv, hu, hd, hne, hkn, hc, hp, ew, e19, e20⟩ := id Mo1
    have h30 : ∀ t, t ∈ ns → t.1 ≤ 30 := fun t ht => by
      obtain ⟨j, hj⟩ := List.mem_iff_getElem?.mp ht
      exact (hs.2.2 j t hj).2.2.2.2.1
    refine T_aload_n (pc := 372) d_Lw_law_372 rfl ?_
    refine T_aload_n (pc := 373) d_Lw_law_373 rfl ?_
    refine T_iload_n (pc := 374) d_Lw_law_374 rfl ?_
    refine T_iconst (v := 1) (pc := 375) d_Lw_law_375 rfl ?_
    refine T_iadd (pc := 376) d_Lw_law_376 ?_
    refine T_iald (pc := 377) d_Lw_law_377 hS1 (by rw [show (nI i + 1 : Int32) = nI (i + 1) from nI_add i 1]; exact vp_in_nI (by omega) (by omega)) ?_
    refine T_if_eq (tgt := 385) (pc := 378) d_Lw_law_378 (by decide) (fun q378 => ?_) (fun q378 => absurd q378 (fun z => z q361))
    refine T_iconst (v := 0) (pc := 385) d_Lw_law_385 rfl ?_
    refine T_ivV (pc := 386) d_Lw_law_386 sI_Lw_66 (c_Mo_hand (b := false) Mo1 hn hdb) hM.1 rfl rfl ⟨(Nat.le_of_ble_eq_true rfl), (Nat.le_of_ble_eq_true rfl)⟩ ⟨(Nat.le_of_ble_eq_true rfl), (Nat.le_of_ble_eq_true rfl)⟩ (Nat.le_of_ble_eq_true rfl) (fun r2 h2 q2 => ?_)
    obtain ⟨rfl, Mo2, O2⟩ := q2
    have hS2 : h2 0 = _ := (O2 0 (Or.inl (by decide))).trans hS1
    have Ow2 := Ow.same (h' := h2) O1 (fun q z1 z2 => O2 q (Or.inl (by omega)))
    obtain ⟨g1, g2, g3, g4, g5, g6, g7⟩ := rcv_mr (b := false) (l := db) (wf := wf) (ns := ns) (tot := tot) (run := run) (ms := ms) (cs := cs) (ps := ps) hk (by have := hd.1; omega)
    have hB := mrB (wf := wf) (ns := ns) (kl := kl) (tot := tot) (run := run) (cs := cs) (b := false) (l := db) hms hps
    have Ow3 : Ow h2 1 wf ns vs [] (rcvF wf ns ms sl old tot run cs ps false db).2.2.2.2.2.1 (rcvF wf ns ms sl old tot run cs ps false db).2.1 (rcvF wf ns ms sl old tot run cs ps false db).2.2.1 (rcvF wf ns ms sl old tot run cs ps false db).2.2.2.1 (rcvF wf ns ms sl old tot run cs ps false db).2.2.2.2.1 (rcvF wf ns ms sl old tot run cs ps false db).2.2.2.2.2.2.1 (rcvF wf ns ms sl old tot run cs ps false db).2.2.2.2.2.2.2 := Ow2
    rw [g3, g4, g5, g6, g7] at Ow3
    refine T_icmp_eq (tgt := 535) (pc := 389) d_Lw_law_389 (by decide) (fun q389 => ?_) (fun q389 => absurd q389 (fun z => z g1))
    exact hK h2 ⟨hS2, _, _, _, _, _, _, _, _, _, _, _, _, Ow3, Mo2, g2, hn, hok, byt_nil, hB.1, hB.2⟩
  · skip
    refine T_iconst (v := 1) (pc := 364) d_Lw_law_364 rfl ?_
    refine T_goto (tgt := 369) (pc := 365) d_Lw_law_365 (by decide) ?_
    refine T_ivV (pc := 369) d_Lw_law_369 sI_Lw_62 (c_OW_hand hO (b := true)) hO.1 rfl rfl ⟨(Nat.le_of_ble_eq_true rfl), (Nat.le_of_ble_eq_true rfl)⟩ ⟨(Nat.le_of_ble_eq_true rfl), (Nat.le_of_ble_eq_true rfl)⟩ (Nat.le_of_ble_eq_true rfl) (fun r1 h1 q1 => ?_)
    obtain ⟨rfl, O1, f1⟩ := q1
    have hS1 : h1 0 = _ := (f1 0 (Or.inl (by decide))).trans hS
    have Mo1 := hMo.same (h' := h1) (fun q z1 z2 => f1 q (Or.inr (by omega)))
    obtain ⟨σ, ν, α, svs, slo, hM, hs, hv, hu, hd, hne, hkn, hc, hp, ew, e19, e20⟩ := id Mo1
    have h30 : ∀ t, t ∈ ns → t.1 ≤ 30 := fun t ht => by
      obtain ⟨j, hj⟩ := List.mem_iff_getElem?.mp ht
      exact (hs.2.2 j t hj).2.2.2.2.1
    refine T_aload_n (pc := 372) d_Lw_law_372 rfl ?_
    refine T_aload_n (pc := 373) d_Lw_law_373 rfl ?_
    refine T_iload_n (pc := 374) d_Lw_law_374 rfl ?_
    refine T_iconst (v := 1) (pc := 375) d_Lw_law_375 rfl ?_
    refine T_iadd (pc := 376) d_Lw_law_376 ?_
    refine T_iald (pc := 377) d_Lw_law_377 hS1 (by rw [show (nI i + 1 : Int32) = nI (i + 1) from nI_add i 1]; exact vp_in_nI (by omega) (by omega)) ?_
    refine T_if_eq (tgt := 385) (pc := 378) d_Lw_law_378 (by decide) (fun q378 => absurd q378 q361) (fun q378 => ?_)
    refine T_iconst (v := 1) (pc := 381) d_Lw_law_381 rfl ?_
    refine T_goto (tgt := 386) (pc := 382) d_Lw_law_382 (by decide) ?_
    refine T_ivV (pc := 386) d_Lw_law_386 sI_Lw_66 (c_Mo_hand (b := true) Mo1 hn hdb) hM.1 rfl rfl ⟨(Nat.le_of_ble_eq_true rfl), (Nat.le_of_ble_eq_true rfl)⟩ ⟨(Nat.le_of_ble_eq_true rfl), (Nat.le_of_ble_eq_true rfl)⟩ (Nat.le_of_ble_eq_true rfl) (fun r2 h2 q2 => ?_)
    obtain ⟨rfl, Mo2, O2⟩ := q2
    have hS2 : h2 0 = _ := (O2 0 (Or.inl (by decide))).trans hS1
    have Ow2 := Ow.same (h' := h2) O1 (fun q z1 z2 => O2 q (Or.inl (by omega)))
    obtain ⟨g1, g2, g3, g4, g5, g6, g7⟩ := rcv_mr (b := true) (l := db) (wf := wf) (ns := ns) (tot := tot) (run := run) (ms := ms) (cs := cs) (ps := ps) hk (by have := hd.1; omega)
    have hB := mrB (wf := wf) (ns := ns) (kl := kl) (tot := tot) (run := run) (cs := cs) (b := true) (l := db) hms hps
    have Ow3 : Ow h2 1 wf ns vs [] (rcvF wf ns ms sl old tot run cs ps true db).2.2.2.2.2.1 (rcvF wf ns ms sl old tot run cs ps true db).2.1 (rcvF wf ns ms sl old tot run cs ps true db).2.2.1 (rcvF wf ns ms sl old tot run cs ps true db).2.2.2.1 (rcvF wf ns ms sl old tot run cs ps true db).2.2.2.2.1 (rcvF wf ns ms sl old tot run cs ps true db).2.2.2.2.2.2.1 (rcvF wf ns ms sl old tot run cs ps true db).2.2.2.2.2.2.2 := Ow2
    rw [g3, g4, g5, g6, g7] at Ow3
    refine T_icmp_eq (tgt := 535) (pc := 389) d_Lw_law_389 (by decide) (fun q389 => ?_) (fun q389 => absurd q389 (fun z => z g1))
    exact hK h2 ⟨hS2, _, _, _, _, _, _, _, _, _, _, _, _, Ow3, Mo2, g2, hn, hok, byt_nil, hB.1, hB.2⟩
set_option maxRecDepth 100000 in
set_option maxHeartbeats 4000000 in
theorem law_total {h : aH} {L i : Nat} {f : Nat → Int32} (hR : Rl h L f) (hi : i + 4 ≤ L) (hL : L ≤ 2049) (hK : ∀ h', Rl h' L f → Tri M_Lw_law room_1 ZL 535 [(3, .int (nI i)), (2, .ref 91), (1, .ref 1), (0, .ref 0)] [] 111 h' 111 9914) : Tri M_Lw_law room_1 ZL 394 [(3, .int (nI i)), (2, .ref 91), (1, .ref 1), (0, .ref 0)] [] 111 h 111 9914 := by
  obtain ⟨hS, wf, ns, vs, db, ms, sl, old, kl, tot, run, cs, ps, hO, hMo, hk, hn, hok, hdb, hms, hps⟩ := id hR
  refine T_aload_n (pc := 394) d_Lw_law_394 rfl ?_
  refine T_ivV (pc := 395) d_Lw_law_395 sI_Lw_67 (c_OW_total hO) hO.1 rfl rfl ⟨(Nat.le_of_ble_eq_true rfl), (Nat.le_of_ble_eq_true rfl)⟩ ⟨(Nat.le_of_ble_eq_true rfl), (Nat.le_of_ble_eq_true rfl)⟩ (Nat.le_of_ble_eq_true rfl) (fun r1 h1 q1 => ?_)
  obtain ⟨rfl, e1⟩ := q1
  rw [e1]
  have Mo1 := hMo
  obtain ⟨σ, ν, α, svs, slo, hM, hs, hv, hu, hd, hne, hkn, hc, hp, ew, e19, e20⟩ := id Mo1
  have h30 : ∀ t, t ∈ ns → t.1 ≤ 30 := fun t ht => by
    obtain ⟨j, hj⟩ := List.mem_iff_getElem?.mp ht
    exact (hs.2.2 j t hj).2.2.2.2.1
  refine T_aload_n (pc := 398) d_Lw_law_398 rfl ?_
  refine T_ivV (pc := 399) d_Lw_law_399 sI_Lw_70 (c_Md_total hM) hM.1 rfl rfl ⟨(Nat.le_of_ble_eq_true rfl), (Nat.le_of_ble_eq_true rfl)⟩ ⟨(Nat.le_of_ble_eq_true rfl), (Nat.le_of_ble_eq_true rfl)⟩ (Nat.le_of_ble_eq_true rfl) (fun r2 h2 q2 => ?_)
  obtain ⟨rfl, e2⟩ := q2
  rw [e2]
  refine T_icmp_eq (tgt := 535) (pc := 402) d_Lw_law_402 (by decide) (fun q402 => ?_) (fun q402 => absurd q402 (fun z => z e19.symm))
  exact hK h hR
set_option maxRecDepth 100000 in
set_option maxHeartbeats 4000000 in
theorem law_runs {h : aH} {L i : Nat} {f : Nat → Int32} (hR : Rl h L f) (hi : i + 4 ≤ L) (hL : L ≤ 2049) (hK : ∀ h', Rl h' L f → Tri M_Lw_law room_1 ZL 535 [(3, .int (nI i)), (2, .ref 91), (1, .ref 1), (0, .ref 0)] [] 111 h' 111 9914) : Tri M_Lw_law room_1 ZL 407 [(3, .int (nI i)), (2, .ref 91), (1, .ref 1), (0, .ref 0)] [] 111 h 111 9914 := by
  obtain ⟨hS, wf, ns, vs, db, ms, sl, old, kl, tot, run, cs, ps, hO, hMo, hk, hn, hok, hdb, hms, hps⟩ := id hR
  refine T_aload_n (pc := 407) d_Lw_law_407 rfl ?_
  refine T_ivV (pc := 408) d_Lw_law_408 sI_Lw_71 (c_OW_runs hO) hO.1 rfl rfl ⟨(Nat.le_of_ble_eq_true rfl), (Nat.le_of_ble_eq_true rfl)⟩ ⟨(Nat.le_of_ble_eq_true rfl), (Nat.le_of_ble_eq_true rfl)⟩ (Nat.le_of_ble_eq_true rfl) (fun r1 h1 q1 => ?_)
  obtain ⟨rfl, e1⟩ := q1
  rw [e1]
  have Mo1 := hMo
  obtain ⟨σ, ν, α, svs, slo, hM, hs, hv, hu, hd, hne, hkn, hc, hp, ew, e19, e20⟩ := id Mo1
  have h30 : ∀ t, t ∈ ns → t.1 ≤ 30 := fun t ht => by
    obtain ⟨j, hj⟩ := List.mem_iff_getElem?.mp ht
    exact (hs.2.2 j t hj).2.2.2.2.1
  refine T_aload_n (pc := 411) d_Lw_law_411 rfl ?_
  refine T_ivV (pc := 412) d_Lw_law_412 sI_Lw_74 (c_Md_runs hM) hM.1 rfl rfl ⟨(Nat.le_of_ble_eq_true rfl), (Nat.le_of_ble_eq_true rfl)⟩ ⟨(Nat.le_of_ble_eq_true rfl), (Nat.le_of_ble_eq_true rfl)⟩ (Nat.le_of_ble_eq_true rfl) (fun r2 h2 q2 => ?_)
  obtain ⟨rfl, e2⟩ := q2
  rw [e2]
  refine T_icmp_eq (tgt := 535) (pc := 415) d_Lw_law_415 (by decide) (fun q415 => ?_) (fun q415 => absurd q415 (fun z => z e20.symm))
  exact hK h hR
set_option maxRecDepth 100000 in
set_option maxHeartbeats 4000000 in
theorem law_status {h : aH} {L i : Nat} {f : Nat → Int32} (hR : Rl h L f) (hi : i + 4 ≤ L) (hL : L ≤ 2049) (hK : ∀ h', Rl h' L f → Tri M_Lw_law room_1 ZL 535 [(3, .int (nI i)), (2, .ref 91), (1, .ref 1), (0, .ref 0)] [] 111 h' 111 9914) : Tri M_Lw_law room_1 ZL 420 [(3, .int (nI i)), (2, .ref 91), (1, .ref 1), (0, .ref 0)] [] 111 h 111 9914 := by
  obtain ⟨hS, wf, ns, vs, db, ms, sl, old, kl, tot, run, cs, ps, hO, hMo, hk, hn, hok, hdb, hms, hps⟩ := id hR
  refine T_aload_n (pc := 420) d_Lw_law_420 rfl ?_
  refine T_aload_n (pc := 421) d_Lw_law_421 rfl ?_
  refine T_iload_n (pc := 422) d_Lw_law_422 rfl ?_
  refine T_iconst (v := 1) (pc := 423) d_Lw_law_423 rfl ?_
  refine T_iadd (pc := 424) d_Lw_law_424 ?_
  refine T_iald (pc := 425) d_Lw_law_425 hS (by rw [show (nI i + 1 : Int32) = nI (i + 1) from nI_add i 1]; exact vp_in_nI (by omega) (by omega)) ?_
  refine T_ivV (pc := 426) d_Lw_law_426 sI_Lw_75 (c_OW_status hO (y := (f (nI i + 1).toNatClampNeg))) hO.1 rfl rfl ⟨(Nat.le_of_ble_eq_true rfl), (Nat.le_of_ble_eq_true rfl)⟩ ⟨(Nat.le_of_ble_eq_true rfl), (Nat.le_of_ble_eq_true rfl)⟩ (Nat.le_of_ble_eq_true rfl) (fun r1 h1 q1 => ?_)
  obtain ⟨rfl, e1⟩ := q1
  rw [e1]
  have Mo1 := hMo
  obtain ⟨σ, ν, α, svs, slo, hM, hs, hv, hu, hd, hne, hkn, hc, hp, ew, e19, e20⟩ := id Mo1
  have h30 : ∀ t, t ∈ ns → t.1 ≤ 30 := fun t ht => by
    obtain ⟨j, hj⟩ := List.mem_iff_getElem?.mp ht
    exact (hs.2.2 j t hj).2.2.2.2.1
  refine T_aload_n (pc := 429) d_Lw_law_429 rfl ?_
  refine T_aload_n (pc := 430) d_Lw_law_430 rfl ?_
  refine T_iload_n (pc := 431) d_Lw_law_431 rfl ?_
  refine T_iconst (v := 1) (pc := 432) d_Lw_law_432 rfl ?_
  refine T_iadd (pc := 433) d_Lw_law_433 ?_
  refine T_iald (pc := 434) d_Lw_law_434 hS (by rw [show (nI i + 1 : Int32) = nI (i + 1) from nI_add i 1]; exact vp_in_nI (by omega) (by omega)) ?_
  refine T_ivV (pc := 435) d_Lw_law_435 sI_Lw_78 (c_Md_status (x := (f (nI i + 1).toNatClampNeg)) hM hc) hM.1 rfl rfl ⟨(Nat.le_of_ble_eq_true rfl), (Nat.le_of_ble_eq_true rfl)⟩ ⟨(Nat.le_of_ble_eq_true rfl), (Nat.le_of_ble_eq_true rfl)⟩ (Nat.le_of_ble_eq_true rfl) (fun r2 h2 q2 => ?_)
  obtain ⟨rfl, e2⟩ := q2
  rw [e2]
  refine T_icmp_eq (tgt := 535) (pc := 438) d_Lw_law_438 (by decide) (fun q438 => ?_) (fun q438 => absurd q438 (fun z => z rfl))
  exact hK h hR
set_option maxRecDepth 100000 in
set_option maxHeartbeats 4000000 in
theorem law_result {h : aH} {L i : Nat} {f : Nat → Int32} (hR : Rl h L f) (hi : i + 4 ≤ L) (hL : L ≤ 2049) (hK : ∀ h', Rl h' L f → Tri M_Lw_law room_1 ZL 535 [(3, .int (nI i)), (2, .ref 91), (1, .ref 1), (0, .ref 0)] [] 111 h' 111 9914) : Tri M_Lw_law room_1 ZL 443 [(3, .int (nI i)), (2, .ref 91), (1, .ref 1), (0, .ref 0)] [] 111 h 111 9914 := by
  obtain ⟨hS, wf, ns, vs, db, ms, sl, old, kl, tot, run, cs, ps, hO, hMo, hk, hn, hok, hdb, hms, hps⟩ := id hR
  refine T_aload_n (pc := 443) d_Lw_law_443 rfl ?_
  refine T_aload_n (pc := 444) d_Lw_law_444 rfl ?_
  refine T_iload_n (pc := 445) d_Lw_law_445 rfl ?_
  refine T_iconst (v := 1) (pc := 446) d_Lw_law_446 rfl ?_
  refine T_iadd (pc := 447) d_Lw_law_447 ?_
  refine T_iald (pc := 448) d_Lw_law_448 hS (by rw [show (nI i + 1 : Int32) = nI (i + 1) from nI_add i 1]; exact vp_in_nI (by omega) (by omega)) ?_
  refine T_ivV (pc := 449) d_Lw_law_449 sI_Lw_79 (c_OW_result hO (y := (f (nI i + 1).toNatClampNeg))) hO.1 rfl rfl ⟨(Nat.le_of_ble_eq_true rfl), (Nat.le_of_ble_eq_true rfl)⟩ ⟨(Nat.le_of_ble_eq_true rfl), (Nat.le_of_ble_eq_true rfl)⟩ (Nat.le_of_ble_eq_true rfl) (fun r1 h1 q1 => ?_)
  obtain ⟨rfl, e1⟩ := q1
  rw [e1]
  have Mo1 := hMo
  obtain ⟨σ, ν, α, svs, slo, hM, hs, hv, hu, hd, hne, hkn, hc, hp, ew, e19, e20⟩ := id Mo1
  have h30 : ∀ t, t ∈ ns → t.1 ≤ 30 := fun t ht => by
    obtain ⟨j, hj⟩ := List.mem_iff_getElem?.mp ht
    exact (hs.2.2 j t hj).2.2.2.2.1
  refine T_aload_n (pc := 452) d_Lw_law_452 rfl ?_
  refine T_aload_n (pc := 453) d_Lw_law_453 rfl ?_
  refine T_iload_n (pc := 454) d_Lw_law_454 rfl ?_
  refine T_iconst (v := 1) (pc := 455) d_Lw_law_455 rfl ?_
  refine T_iadd (pc := 456) d_Lw_law_456 ?_
  refine T_iald (pc := 457) d_Lw_law_457 hS (by rw [show (nI i + 1 : Int32) = nI (i + 1) from nI_add i 1]; exact vp_in_nI (by omega) (by omega)) ?_
  refine T_ivV (pc := 458) d_Lw_law_458 sI_Lw_82 (c_Md_result (x := (f (nI i + 1).toNatClampNeg)) hM hc) hM.1 rfl rfl ⟨(Nat.le_of_ble_eq_true rfl), (Nat.le_of_ble_eq_true rfl)⟩ ⟨(Nat.le_of_ble_eq_true rfl), (Nat.le_of_ble_eq_true rfl)⟩ (Nat.le_of_ble_eq_true rfl) (fun r2 h2 q2 => ?_)
  obtain ⟨rfl, e2⟩ := q2
  rw [e2]
  refine T_icmp_eq (tgt := 535) (pc := 461) d_Lw_law_461 (by decide) (fun q461 => ?_) (fun q461 => absurd q461 (fun z => z rfl))
  exact hK h hR
set_option maxRecDepth 100000 in
set_option maxHeartbeats 4000000 in
theorem law_flight {h : aH} {L i : Nat} {f : Nat → Int32} (hR : Rl h L f) (hi : i + 4 ≤ L) (hL : L ≤ 2049) (hK : ∀ h', Rl h' L f → Tri M_Lw_law room_1 ZL 535 [(3, .int (nI i)), (2, .ref 91), (1, .ref 1), (0, .ref 0)] [] 111 h' 111 9914) : Tri M_Lw_law room_1 ZL 466 [(3, .int (nI i)), (2, .ref 91), (1, .ref 1), (0, .ref 0)] [] 111 h 111 9914 := by
  obtain ⟨hS, wf, ns, vs, db, ms, sl, old, kl, tot, run, cs, ps, hO, hMo, hk, hn, hok, hdb, hms, hps⟩ := id hR
  refine T_aload_n (pc := 466) d_Lw_law_466 rfl ?_
  refine T_ivV (pc := 467) d_Lw_law_467 sI_Lw_83 (c_OW_flight hO) hO.1 rfl rfl ⟨(Nat.le_of_ble_eq_true rfl), (Nat.le_of_ble_eq_true rfl)⟩ ⟨(Nat.le_of_ble_eq_true rfl), (Nat.le_of_ble_eq_true rfl)⟩ (Nat.le_of_ble_eq_true rfl) (fun r1 h1 q1 => ?_)
  obtain ⟨rfl, e1⟩ := q1
  rw [e1]
  have Mo1 := hMo
  obtain ⟨σ, ν, α, svs, slo, hM, hs, hv, hu, hd, hne, hkn, hc, hp, ew, e19, e20⟩ := id Mo1
  have h30 : ∀ t, t ∈ ns → t.1 ≤ 30 := fun t ht => by
    obtain ⟨j, hj⟩ := List.mem_iff_getElem?.mp ht
    exact (hs.2.2 j t hj).2.2.2.2.1
  refine T_aload_n (pc := 470) d_Lw_law_470 rfl ?_
  refine T_ivV (pc := 471) d_Lw_law_471 sI_Lw_86 (c_Md_flight hM) hM.1 rfl rfl ⟨(Nat.le_of_ble_eq_true rfl), (Nat.le_of_ble_eq_true rfl)⟩ ⟨(Nat.le_of_ble_eq_true rfl), (Nat.le_of_ble_eq_true rfl)⟩ (Nat.le_of_ble_eq_true rfl) (fun r2 h2 q2 => ?_)
  obtain ⟨rfl, e2⟩ := q2
  rw [e2]
  refine T_icmp_eq (tgt := 535) (pc := 474) d_Lw_law_474 (by decide) (fun q474 => ?_) (fun q474 => absurd q474 (fun z => z hne.2.1.symm))
  exact hK h hR
set_option maxRecDepth 100000 in
set_option maxHeartbeats 4000000 in
theorem law_size {h : aH} {L i : Nat} {f : Nat → Int32} (hR : Rl h L f) (hi : i + 4 ≤ L) (hL : L ≤ 2049) (hK : ∀ h', Rl h' L f → Tri M_Lw_law room_1 ZL 535 [(3, .int (nI i)), (2, .ref 91), (1, .ref 1), (0, .ref 0)] [] 111 h' 111 9914) : Tri M_Lw_law room_1 ZL 479 [(3, .int (nI i)), (2, .ref 91), (1, .ref 1), (0, .ref 0)] [] 111 h 111 9914 := by
  obtain ⟨hS, wf, ns, vs, db, ms, sl, old, kl, tot, run, cs, ps, hO, hMo, hk, hn, hok, hdb, hms, hps⟩ := id hR
  refine T_aload_n (pc := 479) d_Lw_law_479 rfl ?_
  refine T_aload_n (pc := 480) d_Lw_law_480 rfl ?_
  refine T_iload_n (pc := 481) d_Lw_law_481 rfl ?_
  refine T_iconst (v := 1) (pc := 482) d_Lw_law_482 rfl ?_
  refine T_iadd (pc := 483) d_Lw_law_483 ?_
  refine T_iald (pc := 484) d_Lw_law_484 hS (by rw [show (nI i + 1 : Int32) = nI (i + 1) from nI_add i 1]; exact vp_in_nI (by omega) (by omega)) ?_
  refine T_ivV (pc := 485) d_Lw_law_485 sI_Lw_87 (c_OW_size hO (k := (f (nI i + 1).toNatClampNeg))) hO.1 rfl rfl ⟨(Nat.le_of_ble_eq_true rfl), (Nat.le_of_ble_eq_true rfl)⟩ ⟨(Nat.le_of_ble_eq_true rfl), (Nat.le_of_ble_eq_true rfl)⟩ (Nat.le_of_ble_eq_true rfl) (fun r1 h1 q1 => ?_)
  obtain ⟨rfl, e1⟩ := q1
  rw [e1]
  have Mo1 := hMo
  obtain ⟨σ, ν, α, svs, slo, hM, hs, hv, hu, hd, hne, hkn, hc, hp, ew, e19, e20⟩ := id Mo1
  have h30 : ∀ t, t ∈ ns → t.1 ≤ 30 := fun t ht => by
    obtain ⟨j, hj⟩ := List.mem_iff_getElem?.mp ht
    exact (hs.2.2 j t hj).2.2.2.2.1
  refine T_aload_n (pc := 488) d_Lw_law_488 rfl ?_
  refine T_aload_n (pc := 489) d_Lw_law_489 rfl ?_
  refine T_iload_n (pc := 490) d_Lw_law_490 rfl ?_
  refine T_iconst (v := 1) (pc := 491) d_Lw_law_491 rfl ?_
  refine T_iadd (pc := 492) d_Lw_law_492 ?_
  refine T_iald (pc := 493) d_Lw_law_493 hS (by rw [show (nI i + 1 : Int32) = nI (i + 1) from nI_add i 1]; exact vp_in_nI (by omega) (by omega)) ?_
  refine T_ivV (pc := 494) d_Lw_law_494 sI_Lw_90 (c_Md_size (k := (f (nI i + 1).toNatClampNeg)) hM hne) hM.1 rfl rfl ⟨(Nat.le_of_ble_eq_true rfl), (Nat.le_of_ble_eq_true rfl)⟩ ⟨(Nat.le_of_ble_eq_true rfl), (Nat.le_of_ble_eq_true rfl)⟩ (Nat.le_of_ble_eq_true rfl) (fun r2 h2 q2 => ?_)
  obtain ⟨rfl, e2⟩ := q2
  rw [e2]
  refine T_icmp_eq (tgt := 535) (pc := 497) d_Lw_law_497 (by decide) (fun q497 => ?_) (fun q497 => absurd q497 (fun z => z rfl))
  exact hK h hR
set_option maxRecDepth 100000 in
set_option maxHeartbeats 4000000 in
theorem law_byteAt {h : aH} {L i : Nat} {f : Nat → Int32} (hR : Rl h L f) (hi : i + 4 ≤ L) (hL : L ≤ 2049) (hK : ∀ h', Rl h' L f → Tri M_Lw_law room_1 ZL 535 [(3, .int (nI i)), (2, .ref 91), (1, .ref 1), (0, .ref 0)] [] 111 h' 111 9914) : Tri M_Lw_law room_1 ZL 502 [(3, .int (nI i)), (2, .ref 91), (1, .ref 1), (0, .ref 0)] [] 111 h 111 9914 := by
  obtain ⟨hS, wf, ns, vs, db, ms, sl, old, kl, tot, run, cs, ps, hO, hMo, hk, hn, hok, hdb, hms, hps⟩ := id hR
  refine T_aload_n (pc := 502) d_Lw_law_502 rfl ?_
  refine T_aload_n (pc := 503) d_Lw_law_503 rfl ?_
  refine T_iload_n (pc := 504) d_Lw_law_504 rfl ?_
  refine T_iconst (v := 1) (pc := 505) d_Lw_law_505 rfl ?_
  refine T_iadd (pc := 506) d_Lw_law_506 ?_
  refine T_iald (pc := 507) d_Lw_law_507 hS (by rw [show (nI i + 1 : Int32) = nI (i + 1) from nI_add i 1]; exact vp_in_nI (by omega) (by omega)) ?_
  refine T_aload_n (pc := 508) d_Lw_law_508 rfl ?_
  refine T_iload_n (pc := 509) d_Lw_law_509 rfl ?_
  refine T_iconst (v := 2) (pc := 510) d_Lw_law_510 rfl ?_
  refine T_iadd (pc := 511) d_Lw_law_511 ?_
  refine T_iald (pc := 512) d_Lw_law_512 hS (by rw [show (nI i + 2 : Int32) = nI (i + 2) from nI_add i 2]; exact vp_in_nI (by omega) (by omega)) ?_
  refine T_ivV (pc := 513) d_Lw_law_513 sI_Lw_91 (c_OW_byteAt hO (k := (f (nI i + 1).toNatClampNeg)) (j := (f (nI i + 2).toNatClampNeg))) hO.1 rfl rfl ⟨(Nat.le_of_ble_eq_true rfl), (Nat.le_of_ble_eq_true rfl)⟩ ⟨(Nat.le_of_ble_eq_true rfl), (Nat.le_of_ble_eq_true rfl)⟩ (Nat.le_of_ble_eq_true rfl) (fun r1 h1 q1 => ?_)
  obtain ⟨rfl, e1⟩ := q1
  rw [e1]
  have Mo1 := hMo
  obtain ⟨σ, ν, α, svs, slo, hM, hs, hv, hu, hd, hne, hkn, hc, hp, ew, e19, e20⟩ := id Mo1
  have h30 : ∀ t, t ∈ ns → t.1 ≤ 30 := fun t ht => by
    obtain ⟨j, hj⟩ := List.mem_iff_getElem?.mp ht
    exact (hs.2.2 j t hj).2.2.2.2.1
  refine T_aload_n (pc := 516) d_Lw_law_516 rfl ?_
  refine T_aload_n (pc := 517) d_Lw_law_517 rfl ?_
  refine T_iload_n (pc := 518) d_Lw_law_518 rfl ?_
  refine T_iconst (v := 1) (pc := 519) d_Lw_law_519 rfl ?_
  refine T_iadd (pc := 520) d_Lw_law_520 ?_
  refine T_iald (pc := 521) d_Lw_law_521 hS (by rw [show (nI i + 1 : Int32) = nI (i + 1) from nI_add i 1]; exact vp_in_nI (by omega) (by omega)) ?_
  refine T_aload_n (pc := 522) d_Lw_law_522 rfl ?_
  refine T_iload_n (pc := 523) d_Lw_law_523 rfl ?_
  refine T_iconst (v := 2) (pc := 524) d_Lw_law_524 rfl ?_
  refine T_iadd (pc := 525) d_Lw_law_525 ?_
  refine T_iald (pc := 526) d_Lw_law_526 hS (by rw [show (nI i + 2 : Int32) = nI (i + 2) from nI_add i 2]; exact vp_in_nI (by omega) (by omega)) ?_
  refine T_ivV (pc := 527) d_Lw_law_527 sI_Lw_95 (c_Md_byteAt (k := (f (nI i + 1).toNatClampNeg)) (j := (f (nI i + 2).toNatClampNeg)) hM hne) hM.1 rfl rfl ⟨(Nat.le_of_ble_eq_true rfl), (Nat.le_of_ble_eq_true rfl)⟩ ⟨(Nat.le_of_ble_eq_true rfl), (Nat.le_of_ble_eq_true rfl)⟩ (Nat.le_of_ble_eq_true rfl) (fun r2 h2 q2 => ?_)
  obtain ⟨rfl, e2⟩ := q2
  rw [e2]
  refine T_icmp_eq (tgt := 535) (pc := 530) d_Lw_law_530 (by decide) (fun q530 => ?_) (fun q530 => absurd q530 (fun z => z rfl))
  exact hK h hR
