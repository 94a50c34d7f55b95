/-! OnceWireModel.readTagged, the rest. -/
set_option maxRecDepth 100000 in
set_option maxHeartbeats 4000000 in
theorem c_Md_readTagged_mid {n m : Nat} {h : aH} {σ : Nat → Int32} {ν : Int64} {α : Nat → Nat → Int32} {l : List Int32} {q : Nat} {fv wi : Int32} {S : Int64} {Q : aQ} (hM : Md h m σ ν α) (hr : mRe σ α l) (hp : σ 11 = nI q) (hq : q ≤ l.length) (hby : byt l) (hQ0 : (S < 0 ∨ lN (l.length - q) < S) → Q (some (.int 0)) h) (hQ1 : ∀ (c : Nat) (x : Int32) (h' : aH), S = lN c → c ≤ l.length - q → (c = 4 → x = swp (wat (l.drop q) 0)) → Md h' m (upd σ 11 (nI (q + c))) ν α → mdO h h' m → Tri M_Md_readTagged (a_rm 1 0 0) (a_Z 0 0 Q) 257 [(5, .int x), (3, .long S), (2, .int fv), (1, .int wi), (0, .ref m)] [] n h' 0 0) : Tri M_Md_readTagged (a_rm 1 0 0) (a_Z 0 0 Q) 155 [(3, .long S), (2, .int fv), (1, .int wi), (0, .ref m)] [] n h 0 0 := by
  have hl210 := hr.1
  have hl8 := hr.2.1
  have eS : (σ 8 - σ 11) = nI (l.length - q) := by rw [hl8, hp, pk_sub hq]
  have i3 : σ 11 + 3 = nI (q + 3) := by rw [hp]; exact nI_add q 3
  have i2 : σ 11 + 2 = nI (q + 2) := by rw [hp]; exact nI_add q 2
  have i1 : σ 11 + 1 = nI (q + 1) := by rw [hp]; exact nI_add q 1
  refine T_lload_n (pc := 155) d_Md_readTagged_155 rfl ?_
  refine T_lconst (v := 0) (pc := 156) d_Md_readTagged_156 rfl ?_
  refine T_lcmp (pc := 157) d_Md_readTagged_157 ?_
  refine T_if_lt (tgt := 176) (pc := 158) d_Md_readTagged_158 (by decide) (fun q158 => ?_) (fun q158 => ?_)
  · refine T_iconst (v := 0) (pc := 176) d_Md_readTagged_176 rfl ?_
    refine T_zret (pc := 177) d_Md_readTagged_177 rfl (by decide) rfl (Nat.le_refl _) ?_
    first
      | exact hQ0 (Or.inl ((lg_cmp_lt S 0).mp q158))
      | exact hQ0 (Or.inr (Int64.not_le.mp (fun z => q173 ((lg_cmp_le S _).mpr z))))
  · refine T_lload_n (pc := 161) d_Md_readTagged_161 rfl ?_
    refine T_aload_n (pc := 162) d_Md_readTagged_162 rfl ?_
    refine T_get (pc := 163) d_Md_readTagged_163 sF_Md_87_Md hM.1 rfl ?_
    refine T_aload_n (pc := 166) d_Md_readTagged_166 rfl ?_
    refine T_get (pc := 167) d_Md_readTagged_167 sF_Md_134_Md hM.1 rfl ?_
    refine T_isub (pc := 170) d_Md_readTagged_170 ?_
    refine T_top (eS) ?_
    refine T_i2l (pc := 171) d_Md_readTagged_171 ?_
    refine T_topL (nI_l (by omega)) ?_
    refine T_lcmp (pc := 172) d_Md_readTagged_172 ?_
    refine T_if_le (tgt := 178) (pc := 173) d_Md_readTagged_173 (by decide) (fun q173 => ?_) (fun q173 => ?_)
    · have hS0 : ¬ S < 0 := fun z => q158 ((lg_cmp_lt S 0).mpr z)
      have hS1 : S ≤ lN (l.length - q) := (lg_cmp_le S _).mp q173
      obtain ⟨c, hc63, hSc⟩ := pk_lOf hS0
      have hcl : c ≤ l.length - q := (pk_lLE hc63 (by omega)).mp (hSc ▸ hS1)
      refine T_lload_n (pc := 178) d_Md_readTagged_178 rfl ?_
      refine T_ldc2 (pc := 179) d_Md_readTagged_179 (Ws_at (i := 9) (k := 14) rfl rfl) ?_
      refine T_lcmp (pc := 182) d_Md_readTagged_182 ?_
      refine T_if_lt (tgt := 243) (pc := 183) d_Md_readTagged_183 (by decide) (fun q183 => ?_) (fun q183 => ?_)
      · refine T_iconst (v := 0) (pc := 243) d_Md_readTagged_243 rfl ?_
        refine T_istore (pc := 244) d_Md_readTagged_244 (Nat.le_of_ble_eq_true rfl) rfl ?_
        refine T_aload_n (pc := 246) d_Md_readTagged_246 rfl ?_
        refine T_aload_n (pc := 247) d_Md_readTagged_247 rfl ?_
        refine T_get (pc := 248) d_Md_readTagged_248 sF_Md_134_Md hM.1 rfl ?_
        refine T_lload_n (pc := 251) d_Md_readTagged_251 rfl ?_
        refine T_l2i (pc := 252) d_Md_readTagged_252 ?_
        refine T_iadd (pc := 253) d_Md_readTagged_253 ?_
        refine T_top (show σ 11 + S.toInt32 = nI (q + c) by rw [hSc, hp, lN_i, nI_add]) ?_
        refine T_put (pc := 254) d_Md_readTagged_254 sF_Md_134_Md hM.1 (Nat.le_of_ble_eq_true rfl) (a_fit_i _) (T_up (fun h254x1 g254x1 o254x1 => ?_))
        have M254x1 := hM.put 11 _ g254x1 o254x1 rfl
        have O254x1 := mdO.o (j := 0) mdO.rf o254x1 (by decide)
        refine hQ1 c _ _ hSc hcl (fun h4 => ?_) M254x1 O254x1
        first
          | exact absurd ((lg_cmp_lt S _).mp q183) (by rw [hSc, h4]; decide)
          | (have gb : ∀ j, j < 4 → ∃ b, b < 256 ∧ α 6 (q + j) = nI b ∧ l.getD (q + j) 0 = nI b := fun j hj => by
               obtain ⟨x, hx⟩ : ∃ x, l[q + j]? = some x := ⟨_, List.getElem?_eq_getElem (by omega)⟩
               obtain ⟨b, hb, rfl⟩ := hby x (List.mem_of_getElem? hx)
               have h7 := hr.2.2 (q + j) (by omega)
               rw [hx, Nat.zero_add] at h7
               exact ⟨b, hb, (Option.some.inj h7).symm, by rw [List.getD_eq_getElem?_getD, hx]; rfl⟩
             obtain ⟨b0, hb0, a0, g0⟩ := gb 0 (by decide)
             obtain ⟨b1, hb1, a1, g1⟩ := gb 1 (by decide)
             obtain ⟨b2, hb2, a2, g2⟩ := gb 2 (by decide)
             obtain ⟨b3, hb3, a3, g3⟩ := gb 3 (by decide)
             rw [Nat.add_zero] at a0 g0
             rw [wat_drop, wat, g0, g1, g2, g3, word4 hb0 hb1 hb2 hb3, swp4 hb0 hb1 hb2 hb3, i3, i2, i1, hp, nI_clamp (by omega), nI_clamp (by omega), nI_clamp (by omega), nI_clamp (by omega), a0, a1, a2, a3]
             exact word4 hb3 hb2 hb1 hb0)
      · have hc4 : 4 ≤ c := by
          rcases Nat.lt_or_ge c 4 with z | z
          · exact absurd ((lg_cmp_lt S _).mpr (by rw [hSc]; exact (pk_lLT hc63 (by decide)).mpr z)) q183
          · exact z
        refine T_aload_n (pc := 186) d_Md_readTagged_186 rfl ?_
        refine T_get (pc := 187) d_Md_readTagged_187 sF_Md_26_Md hM.1 rfl ?_
        refine T_aload_n (pc := 190) d_Md_readTagged_190 rfl ?_
        refine T_get (pc := 191) d_Md_readTagged_191 sF_Md_134_Md hM.1 rfl ?_
        refine T_iconst (v := 3) (pc := 194) d_Md_readTagged_194 rfl ?_
        refine T_iadd (pc := 195) d_Md_readTagged_195 ?_
        refine T_iald (N := 210) (pc := 196) d_Md_readTagged_196 (hM.arr 6) (by rw [i3]; exact vp_in_nI (by omega) (by decide)) ?_
        refine T_bipush (v := 24) (pc := 197) d_Md_readTagged_197 rfl ?_
        refine T_ishl (pc := 199) d_Md_readTagged_199 ?_
        refine T_aload_n (pc := 200) d_Md_readTagged_200 rfl ?_
        refine T_get (pc := 201) d_Md_readTagged_201 sF_Md_26_Md hM.1 rfl ?_
        refine T_aload_n (pc := 204) d_Md_readTagged_204 rfl ?_
        refine T_get (pc := 205) d_Md_readTagged_205 sF_Md_134_Md hM.1 rfl ?_
        refine T_iconst (v := 2) (pc := 208) d_Md_readTagged_208 rfl ?_
        refine T_iadd (pc := 209) d_Md_readTagged_209 ?_
        refine T_iald (N := 210) (pc := 210) d_Md_readTagged_210 (hM.arr 6) (by rw [i2]; exact vp_in_nI (by omega) (by decide)) ?_
        refine T_bipush (v := 16) (pc := 211) d_Md_readTagged_211 rfl ?_
        refine T_ishl (pc := 213) d_Md_readTagged_213 ?_
        refine T_ior (pc := 214) d_Md_readTagged_214 ?_
        refine T_aload_n (pc := 215) d_Md_readTagged_215 rfl ?_
        refine T_get (pc := 216) d_Md_readTagged_216 sF_Md_26_Md hM.1 rfl ?_
        refine T_aload_n (pc := 219) d_Md_readTagged_219 rfl ?_
        refine T_get (pc := 220) d_Md_readTagged_220 sF_Md_134_Md hM.1 rfl ?_
        refine T_iconst (v := 1) (pc := 223) d_Md_readTagged_223 rfl ?_
        refine T_iadd (pc := 224) d_Md_readTagged_224 ?_
        refine T_iald (N := 210) (pc := 225) d_Md_readTagged_225 (hM.arr 6) (by rw [i1]; exact vp_in_nI (by omega) (by decide)) ?_
        refine T_bipush (v := 8) (pc := 226) d_Md_readTagged_226 rfl ?_
        refine T_ishl (pc := 228) d_Md_readTagged_228 ?_
        refine T_ior (pc := 229) d_Md_readTagged_229 ?_
        refine T_aload_n (pc := 230) d_Md_readTagged_230 rfl ?_
        refine T_get (pc := 231) d_Md_readTagged_231 sF_Md_26_Md hM.1 rfl ?_
        refine T_aload_n (pc := 234) d_Md_readTagged_234 rfl ?_
        refine T_get (pc := 235) d_Md_readTagged_235 sF_Md_134_Md hM.1 rfl ?_
        refine T_iald (N := 210) (pc := 238) d_Md_readTagged_238 (hM.arr 6) (by rw [hp]; exact vp_in_nI (by omega) (by decide)) ?_
        refine T_ior (pc := 239) d_Md_readTagged_239 ?_
        refine T_goto (tgt := 244) (pc := 240) d_Md_readTagged_240 (by decide) ?_
        refine T_istore (pc := 244) d_Md_readTagged_244 (Nat.le_of_ble_eq_true rfl) rfl ?_
        refine T_aload_n (pc := 246) d_Md_readTagged_246 rfl ?_
        refine T_aload_n (pc := 247) d_Md_readTagged_247 rfl ?_
        refine T_get (pc := 248) d_Md_readTagged_248 sF_Md_134_Md hM.1 rfl ?_
        refine T_lload_n (pc := 251) d_Md_readTagged_251 rfl ?_
        refine T_l2i (pc := 252) d_Md_readTagged_252 ?_
        refine T_iadd (pc := 253) d_Md_readTagged_253 ?_
        refine T_top (show σ 11 + S.toInt32 = nI (q + c) by rw [hSc, hp, lN_i, nI_add]) ?_
        refine T_put (pc := 254) d_Md_readTagged_254 sF_Md_134_Md hM.1 (Nat.le_of_ble_eq_true rfl) (a_fit_i _) (T_up (fun h254x2 g254x2 o254x2 => ?_))
        have M254x2 := hM.put 11 _ g254x2 o254x2 rfl
        have O254x2 := mdO.o (j := 0) mdO.rf o254x2 (by decide)
        refine hQ1 c _ _ hSc hcl (fun h4 => ?_) M254x2 O254x2
        first
          | exact absurd ((lg_cmp_lt S _).mp q183) (by rw [hSc, h4]; decide)
          | (have gb : ∀ j, j < 4 → ∃ b, b < 256 ∧ α 6 (q + j) = nI b ∧ l.getD (q + j) 0 = nI b := fun j hj => by
               obtain ⟨x, hx⟩ : ∃ x, l[q + j]? = some x := ⟨_, List.getElem?_eq_getElem (by omega)⟩
               obtain ⟨b, hb, rfl⟩ := hby x (List.mem_of_getElem? hx)
               have h7 := hr.2.2 (q + j) (by omega)
               rw [hx, Nat.zero_add] at h7
               exact ⟨b, hb, (Option.some.inj h7).symm, by rw [List.getD_eq_getElem?_getD, hx]; rfl⟩
             obtain ⟨b0, hb0, a0, g0⟩ := gb 0 (by decide)
             obtain ⟨b1, hb1, a1, g1⟩ := gb 1 (by decide)
             obtain ⟨b2, hb2, a2, g2⟩ := gb 2 (by decide)
             obtain ⟨b3, hb3, a3, g3⟩ := gb 3 (by decide)
             rw [Nat.add_zero] at a0 g0
             rw [wat_drop, wat, g0, g1, g2, g3, word4 hb0 hb1 hb2 hb3, swp4 hb0 hb1 hb2 hb3, i3, i2, i1, hp, nI_clamp (by omega), nI_clamp (by omega), nI_clamp (by omega), nI_clamp (by omega), a0, a1, a2, a3]
             exact word4 hb3 hb2 hb1 hb0)
    · refine T_iconst (v := 0) (pc := 176) d_Md_readTagged_176 rfl ?_
      refine T_zret (pc := 177) d_Md_readTagged_177 rfl (by decide) rfl (Nat.le_refl _) ?_
      first
        | exact hQ0 (Or.inl ((lg_cmp_lt S 0).mp q158))
        | exact hQ0 (Or.inr (Int64.not_le.mp (fun z => q173 ((lg_cmp_le S _).mpr z))))
theorem foF_wi (x wi : Int32) : ∀ (ts : List Sf) (i j : Nat), foF x wi ts i = some j → i ≤ j ∧ ∃ t, ts[j - i]? = some t ∧ wiN t = wi
  | [], i, j, h => by cases h
  | t :: ts, i, j, h => by
    rw [foF] at h
    split at h
    · rename_i e
      cases h
      exact ⟨Nat.le_refl _, t, by simp, e.2⟩
    · obtain ⟨h0, t', h1, h2⟩ := foF_wi x wi ts (i + 1) j h
      refine ⟨by omega, t', ?_, h2⟩
      rw [show j - i = (j - (i + 1)) + 1 by omega]
      simpa using h1
theorem foF_0 {x wi : Int32} {ns : List Sf} {i : Nat} {vs : List (List Int32)} (hl : vs.length = ns.length) (h : foF x wi ns 0 = some i) : ∃ t w, ns[i]? = some t ∧ wiN t = wi ∧ vs[i]? = some w := by
  obtain ⟨_, t, h1, h2⟩ := foF_wi x wi ns 0 i h
  rw [Nat.sub_zero] at h1
  have hi := (List.getElem?_eq_some_iff.mp h1).1
  exact ⟨t, vs[i], h1, h2, List.getElem?_eq_getElem (by omega)⟩
theorem foF_no {x wi : Int32} {ns : List Sf} (h0 : wi ≠ 0) (h5 : wi ≠ 5) : foF x wi ns 0 = none := by
  cases h : foF x wi ns 0 with
  | none => rfl
  | some i =>
    obtain ⟨_, t, h1, h2⟩ := foF_wi x wi ns 0 i h
    unfold wiN at h2
    split at h2
    · exact absurd h2.symm h5
    · exact absurd h2.symm h0
abbrev rtX (ns : List Sf) (vs : List (List Int32)) (f : Option Nat) (m1 : Nat) (o : Option (Int64 × Nat)) : Option (List (List Int32) × Nat) := o.bind (fun z => (stf ns vs f (fun k => iop k z.1)).map (fun y => (y, m1 + z.2)))
theorem iop2 (x : Int32) : iop 2 x.toInt64 = x := by
  unfold iop
  rw [if_neg (by decide), if_neg (by decide)]
  exact Int32.toInt32_toInt64 x
set_option maxRecDepth 100000 in
set_option maxHeartbeats 4000000 in
theorem c_Md_readTagged_w0 {n m : Nat} {h : aH} {σ : Nat → Int32} {ν : Int64} {α : Nat → Nat → Int32} {ns : List Sf} {vs : List (List Int32)} {l : List Int32} {p m1 : Nat} {x : Int32} (hM : Md h m σ ν α) (hs : mSc σ α ns) (hv : mVa α 4 ns vs) (hr : mRe σ α l) (hp : σ 11 = nI (p + m1)) (hq : p + m1 ≤ l.length) {Q : aQ} (hQ : ∀ r h', rtQ h m σ α ns vs l p (rtX ns vs (foF x 0 ns 0) m1 (rv 10 0 0 (l.drop (p + m1)))) r h' → Q r h') : Tri M_Md_readTagged (a_rm 1 0 0) (a_Z 0 0 Q) 56 [(2, .int (oI (foF x 0 ns 0))), (1, .int 0), (0, .ref m)] [] n h 0 0 := by
  have hs4 := hs.1
  refine T_iload_n (pc := 56) d_Md_readTagged_56 rfl ?_
  refine T_if_ne (tgt := 97) (pc := 57) d_Md_readTagged_57 (by decide) (fun q57 => absurd q57 (by decide)) (fun q57 => ?_)
  refine T_aload_n (pc := 60) d_Md_readTagged_60 rfl ?_
  refine T_ivV (pc := 61) d_Md_readTagged_61 sI_Md_143 (c_Md_readVarint hM hr hp hq) hM.1 rfl rfl ⟨(Nat.le_of_ble_eq_true rfl), (Nat.le_of_ble_eq_true rfl)⟩ ⟨(Nat.le_of_ble_eq_true rfl), (Nat.le_of_ble_eq_true rfl)⟩ (Nat.le_of_ble_eq_true rfl) (fun r1 h1 q1 => ?_)
  obtain ⟨σ1, ν1, α1, M1, O1, e1, k1⟩ := q1
  rw [e1] at M1
  rcases hrv : rv 10 0 0 (l.drop (p + m1)) with _ | ⟨pl, m2⟩
  · rw [hrv] at k1
    obtain ⟨rfl, e2, e3⟩ := k1
    rw [e2, e3] at M1
    rw [hrv] at hQ
    refine T_if_eq (tgt := 95) (pc := 64) d_Md_readTagged_64 (by decide) (fun q64 => ?_) (fun q64 => absurd q64 (by decide))
    refine T_iconst (v := 0) (pc := 95) d_Md_readTagged_95 rfl ?_
    refine T_zret (pc := 96) d_Md_readTagged_96 rfl (by decide) rfl (Nat.le_refl _) ?_
    exact hQ _ _ ⟨_, _, _, M1, O1, sX.rf, aX.rf, fun _ _ => rfl, fun _ _ => rfl, rfl, hv⟩
  · rw [hrv] at k1
    obtain ⟨rfl, e2, e3⟩ := k1
    rw [e2, e3] at M1
    rw [hrv] at hQ
    have hm2 := (rv_le _ _ _ _ _ _ hrv).2
    rw [List.length_drop] at hm2
    have hs1 : mSc (upd σ 11 (nI (p + m1 + m2))) α ns := hs.same (pk_un (by decide)) rfl rfl rfl
    have sx1 : sX [11] σ (upd σ 11 (nI (p + m1 + m2))) := sX.rf.up (by decide)
    have hp1 : (upd σ 11 (nI (p + m1 + m2))) 11 = nI (p + (m1 + m2)) := by rw [pk_us, Nat.add_assoc]
    have hpl1 : p + (m1 + m2) ≤ l.length := by omega
    refine T_if_eq (tgt := 95) (pc := 64) d_Md_readTagged_64 (by decide) (fun q64 => absurd q64 (by decide)) (fun q64 => ?_)
    cases hf : foF x 0 ns 0 with
    | none =>
      rw [hf] at hQ
      refine T_iload_n (pc := 67) d_Md_readTagged_67 rfl ?_
      refine T_if_lt (tgt := 91) (pc := 68) d_Md_readTagged_68 (by decide) (fun q68 => ?_) (fun q68 => absurd q68 (by decide))
      refine T_iconst (v := 1) (pc := 91) d_Md_readTagged_91 rfl ?_
      refine T_goto (tgt := 96) (pc := 92) d_Md_readTagged_92 (by decide) ?_
      refine T_zret (pc := 96) d_Md_readTagged_96 rfl (by decide) rfl (Nat.le_refl _) ?_
      exact hQ _ _ ⟨_, _, _, M1, O1, sx1, aX.rf, fun _ _ => rfl, fun _ _ => rfl, rfl, hv, hp1, hpl1⟩
    | some i =>
      rw [hf] at hQ
      obtain ⟨t, w, ht, hwi, hw⟩ := foF_0 hv.1 hf
      have hi : i < ns.length := (List.getElem?_eq_some_iff.mp ht).1
      obtain ⟨b1, b2, b3, t1, t30, t3⟩ := hs.2.2 i t ht
      have eK : α 2 (nI i).toNatClampNeg = nI t.2.1 := by rw [nI_clamp (by omega)]; exact b2
      have eX : rtX ns vs (some i) m1 (some (pl, m2)) = (stv ns vs i (iop t.2.1 pl)).map (fun y => (y, m1 + m2)) := by
        show (stf ns vs (some i) (fun k => iop k pl)).map _ = _
        simp only [stf, ht]
      rw [eX] at hQ
      refine T_iload_n (pc := 67) d_Md_readTagged_67 rfl ?_
      refine T_if_lt (tgt := 91) (pc := 68) d_Md_readTagged_68 (by decide) (fun q68 => absurd q68 (nI_pos (n := i) (by omega))) (fun q68 => ?_)
      refine T_aload_n (pc := 71) d_Md_readTagged_71 rfl ?_
      refine T_iconst (v := 4) (pc := 72) d_Md_readTagged_72 rfl ?_
      refine T_iload_n (pc := 73) d_Md_readTagged_73 rfl ?_
      refine T_iadd (pc := 74) d_Md_readTagged_74 ?_
      refine T_top (show (4 : Int32) + nI i = nI (4 + i) from nI_add 4 i) ?_
      refine T_aload_n (pc := 75) d_Md_readTagged_75 rfl ?_
      refine T_aload_n (pc := 76) d_Md_readTagged_76 rfl ?_
      refine T_get (pc := 77) d_Md_readTagged_77 sF_Md_13_Md M1.1 rfl ?_
      refine T_iload_n (pc := 80) d_Md_readTagged_80 rfl ?_
      refine T_iald (N := 4) (pc := 81) d_Md_readTagged_81 (M1.arr 2) (vp_in_nI (by omega) (by decide)) ?_
      refine T_top eK ?_
      refine T_ivV (pc := 82) d_Md_readTagged_82 sI_Md_151 (c_Md_meant (k := t.2.1) M1 t3) M1.1 rfl rfl ⟨(Nat.le_of_ble_eq_true rfl), (Nat.le_of_ble_eq_true rfl)⟩ ⟨(Nat.le_of_ble_eq_true rfl), (Nat.le_of_ble_eq_true rfl)⟩ (Nat.le_of_ble_eq_true rfl) (fun r3 h3 q3 => ?_)
      obtain ⟨rfl, rfl⟩ := q3
      refine T_ivV (pc := 85) d_Md_readTagged_85 sI_Md_83 (c_Md_give (x := iop t.2.1 pl) M1 hs1 (Or.inr rfl) hv ht hw) M1.1 rfl rfl ⟨(Nat.le_of_ble_eq_true rfl), (Nat.le_of_ble_eq_true rfl)⟩ ⟨(Nat.le_of_ble_eq_true rfl), (Nat.le_of_ble_eq_true rfl)⟩ (Nat.le_of_ble_eq_true rfl) (fun r2 h2 q2 => ?_)
      obtain ⟨σ2, ν2, α2, M2, O2, e5, e6, a2, x4, x5, k2⟩ := q2
      rw [e6] at M2
      rcases hst : stv ns vs i (iop t.2.1 pl) with _ | vs'
      · rw [hst] at k2
        obtain ⟨rfl, e9⟩ := k2
        rw [hst] at hQ
        refine T_if_eq (tgt := 95) (pc := 88) d_Md_readTagged_88 (by decide) (fun q88 => ?_) (fun q88 => absurd q88 (by decide))
        refine T_iconst (v := 0) (pc := 95) d_Md_readTagged_95 rfl ?_
        refine T_zret (pc := 96) d_Md_readTagged_96 rfl (by decide) rfl (Nat.le_refl _) ?_
        exact hQ _ _ ⟨_, _, _, M2, mdO.tr O1 O2, sx1, a2, x4, x5, rfl, by rw [e9]; exact hv⟩
      · rw [hst] at k2
        obtain ⟨rfl, e9⟩ := k2
        rw [hst] at hQ
        refine T_if_eq (tgt := 95) (pc := 88) d_Md_readTagged_88 (by decide) (fun q88 => absurd q88 (by decide)) (fun q88 => ?_)
        refine T_iconst (v := 1) (pc := 91) d_Md_readTagged_91 rfl ?_
        refine T_goto (tgt := 96) (pc := 92) d_Md_readTagged_92 (by decide) ?_
        refine T_zret (pc := 96) d_Md_readTagged_96 rfl (by decide) rfl (Nat.le_refl _) ?_
        exact hQ _ _ ⟨_, _, _, M2, mdO.tr O1 O2, sx1, a2, x4, x5, rfl, e9, hp1, hpl1⟩
