/-! OnceWireModel: writeDraft. -/
def encI (wf : Bool) (t : Sf) (us : List Int32) : List Int32 := if wf then us.flatMap wby else us.flatMap (encT1 t)
abbrev vOk (ns : List Sf) (vs : List (List Int32)) : Prop := ∀ (i : Nat) (t : Sf) (w : List Int32), ns[i]? = some t → vs[i]? = some w → t.2.1 = 3 → ∀ x, x ∈ w → x = 0 ∨ x = 1
set_option maxRecDepth 100000 in
set_option maxHeartbeats 4000000 in
theorem encI_len {wf : Bool} {t : Sf} {w : List Int32} (h : t.1 ≤ 30) : (encI wf t w).length ≤ 7 * w.length := by
  unfold encI
  split
  · rw [wbyl]
    omega
  · exact encT1s_len h w

theorem c_Md_writeDraft_in {n m i : Nat} {ν : Int64} {σ0 : Nat → Int32} {α0 : Nat → Nat → Int32} {ns : List Sf} {t : Sf} {w : List Int32} {wf : Bool} {Z : aZ} (hs : mSc σ0 α0 ns) (ht : ns[i]? = some t) (v1 : α0 4 i = nI w.length) (v2 : w.length ≤ 4) (v4 : Rw (α0 5) (4 * i) w) (ew : σ0 0 = bI wf) (hb : t.2.1 = 3 → ∀ x, x ∈ w → x = 0 ∨ x = 1) : ∀ (us : List Int32) (j : Nat) (h : aH) (σ : Nat → Int32) (α : Nat → Nat → Int32) (l : List Int32), w.drop j = us → j ≤ w.length → Md h m σ ν α → mRe σ α l → sX [8] σ0 σ → aX [6] α0 α → l.length + 7 * us.length ≤ 210 → (∀ h' σ' α', Md h' m σ' ν α' → mdO h h' m → mRe σ' α' (l ++ encI wf t us) → sX [8] σ0 σ' → aX [6] α0 α' → Tri M_Md_writeDraft (a_rm 3 0 0) Z 99 [(2, .int (nI w.length)), (1, .int (nI i)), (0, .ref m)] [] n h' 0 0) → Tri M_Md_writeDraft (a_rm 3 0 0) Z 38 [(2, .int (nI j)), (1, .int (nI i)), (0, .ref m)] [] n h 0 0 := by
  have hi := (List.getElem?_eq_some_iff.mp ht).1
  have hs4 := hs.1
  intro us
  induction us with
  | nil =>
    intro j h σ α l hus hj hM hr sx ax hl hQ
    have hj2 : j = w.length := Nat.le_antisymm hj (List.drop_eq_nil_iff.mp hus)
    subst hj2
    have em : α 4 (nI i).toNatClampNeg = nI w.length := by rw [nI_clamp (by omega), ax 4 (by decide)]; exact v1
    refine T_iload_n (pc := 38) d_Md_writeDraft_38 rfl ?_
    refine T_aload_n (pc := 39) d_Md_writeDraft_39 rfl ?_
    refine T_get (pc := 40) d_Md_writeDraft_40 sF_Md_20_Md hM.1 rfl ?_
    refine T_iload_n (pc := 43) d_Md_writeDraft_43 rfl ?_
    refine T_iald (N := 8) (pc := 44) d_Md_writeDraft_44 (hM.arr 4) (vp_in_nI (by omega) (by decide)) ?_
    refine T_icmp_ge (tgt := 99) (pc := 45) d_Md_writeDraft_45 (by decide) (fun q45 => ?_) (fun q45 => ?_)
    · exact hQ h σ α hM mdO.rf (by unfold encI; simpa using hr) sx ax
    · exact absurd (by rw [em]; exact Int32.le_refl _) q45
  | cons x us ih =>
    intro j h σ α l hus hj hM hr sx ax hl hQ
    simp only [List.length_cons] at hl
    have em : α 4 (nI i).toNatClampNeg = nI w.length := by rw [nI_clamp (by omega), ax 4 (by decide)]; exact v1
    have hj2 : j < w.length := by
      have := congrArg List.length hus
      simp at this
      omega
    have hx : w[j]? = some x := by
      have := congrArg (fun l => l[0]?) hus
      simpa using this
    have hus2 : w.drop (j + 1) = us := by
      rw [← List.drop_drop, hus]
      rfl
    have eI : (4 : Int32) * nI i + nI j = nI (4 * i + j) := by rw [show (4 : Int32) * nI i = nI (4 * i) from pk_mul 4 i, nI_add]
    have e5 : α 5 (4 * nI i + nI j).toNatClampNeg = x := by
      rw [eI, nI_clamp (by omega), ax 5 (by decide)]
      have := v4 j hj2
      rw [hx] at this
      exact (Option.some.inj this).symm
    have e0 : σ 0 = bI wf := (sx 0 (by decide)).trans ew
    have e3 : α 3 (nI i).toNatClampNeg = bI t.2.2 := by rw [nI_clamp (by omega), ax 3 (by decide)]; exact (hs.2.2 i t ht).2.2.1
    have hsn : mSc σ α ns := hs.same (sx 1 (by decide)) (ax 1 (by decide)) (ax 2 (by decide)) (ax 3 (by decide))
    refine T_iload_n (pc := 38) d_Md_writeDraft_38 rfl ?_
    refine T_aload_n (pc := 39) d_Md_writeDraft_39 rfl ?_
    refine T_get (pc := 40) d_Md_writeDraft_40 sF_Md_20_Md hM.1 rfl ?_
    refine T_iload_n (pc := 43) d_Md_writeDraft_43 rfl ?_
    refine T_iald (N := 8) (pc := 44) d_Md_writeDraft_44 (hM.arr 4) (vp_in_nI (by omega) (by decide)) ?_
    refine T_icmp_ge (tgt := 99) (pc := 45) d_Md_writeDraft_45 (by decide) (fun q45 => ?_) (fun q45 => ?_)
    · exact absurd q45 (by rw [em]; exact nI_ge hj2 (by omega))
    · refine T_aload_n (pc := 48) d_Md_writeDraft_48 rfl ?_
      refine T_get (pc := 49) d_Md_writeDraft_49 sF_Md_23_Md hM.1 rfl ?_
      refine T_iconst (v := 4) (pc := 52) d_Md_writeDraft_52 rfl ?_
      refine T_iload_n (pc := 53) d_Md_writeDraft_53 rfl ?_
      refine T_imul (pc := 54) d_Md_writeDraft_54 ?_
      refine T_iload_n (pc := 55) d_Md_writeDraft_55 rfl ?_
      refine T_iadd (pc := 56) d_Md_writeDraft_56 ?_
      refine T_iald (N := 32) (pc := 57) d_Md_writeDraft_57 (hM.arr 5) (by rw [eI]; exact vp_in_nI (by omega) (by decide)) ?_
      refine T_top (e5) ?_
      refine T_istore_n (pc := 58) d_Md_writeDraft_58 rfl (Nat.le_of_ble_eq_true rfl) rfl ?_
      refine T_aload_n (pc := 59) d_Md_writeDraft_59 rfl ?_
      refine T_get (pc := 60) d_Md_writeDraft_60 sF_Md_71_Md hM.1 rfl ?_
      refine T_top (e0) ?_
      refine T_if_eq (tgt := 74) (pc := 63) d_Md_writeDraft_63 (by decide) (fun q63 => ?_) (fun q63 => ?_)
      · refine T_aload_n (pc := 74) d_Md_writeDraft_74 rfl ?_
        refine T_get (pc := 75) d_Md_writeDraft_75 sF_Md_16_Md hM.1 rfl ?_
        refine T_iload_n (pc := 78) d_Md_writeDraft_78 rfl ?_
        refine T_zald (N := 4) (pc := 79) d_Md_writeDraft_79 (hM.arr 3) (vp_in_nI (by omega) (by decide)) ?_
        refine T_top (e3) ?_
        refine T_if_ne (tgt := 87) (pc := 80) d_Md_writeDraft_80 (by decide) (fun q80 => ?_) (fun q80 => ?_)
        · refine T_aload_n (pc := 87) d_Md_writeDraft_87 rfl ?_
          refine T_iload_n (pc := 88) d_Md_writeDraft_88 rfl ?_
          refine T_iload_n (pc := 89) d_Md_writeDraft_89 rfl ?_
          refine T_ivV (pc := 90) d_Md_writeDraft_90 sI_Md_112 (c_Md_writeTagged hM hsn ht hr (by omega) (fun z => hb z x (List.mem_of_getElem? hx))) hM.1 rfl rfl ⟨(Nat.le_of_ble_eq_true rfl), (Nat.le_of_ble_eq_true rfl)⟩ ⟨(Nat.le_of_ble_eq_true rfl), (Nat.le_of_ble_eq_true rfl)⟩ (Nat.le_of_ble_eq_true rfl) (fun r2 h2 q2 => ?_)
          obtain ⟨σ2, ν2, α2, M2, O2, rfl, rfl, hr2, s2, a2⟩ := q2
          refine T_iinc (pc := 93) d_Md_writeDraft_93 rfl (nI_1 j) (Nat.le_of_ble_eq_true rfl) rfl ?_
          refine T_goto (tgt := 38) (pc := 96) d_Md_writeDraft_96 (by decide) ?_
          refine T_loc [0, 2, 3] rfl ?_
          have hw := bI_z q63
          subst hw
          have hne : x ≠ 0 ∨ t.2.2 = true := by
            first
              | exact Or.inr (bI_n q80)
              | exact Or.inl q84
          have e1 : encT1 t x = vi 4 (keyN t) ++ wInt t.2.1 x := by rw [encT1, if_pos hne]
          have hle := encT1_len (hs.2.2 i t ht).2.2.2.2.1 x
          rw [← e1] at hr2
          refine ih (j + 1) _ _ _ _ hus2 hj2 M2 hr2 (sx.tr s2) (ax.tr a2) (by rw [List.length_append]; omega) (fun h' σ' α' k1 k2 k3 k4 k5 => hQ h' σ' α' k1 (O2.tr k2) ?_ k4 k5)
          rw [List.append_assoc] at k3
          exact k3
        · refine T_iload_n (pc := 83) d_Md_writeDraft_83 rfl ?_
          refine T_if_eq (tgt := 93) (pc := 84) d_Md_writeDraft_84 (by decide) (fun q84 => ?_) (fun q84 => ?_)
          · refine T_iinc (pc := 93) d_Md_writeDraft_93 rfl (nI_1 j) (Nat.le_of_ble_eq_true rfl) rfl ?_
            refine T_goto (tgt := 38) (pc := 96) d_Md_writeDraft_96 (by decide) ?_
            refine T_loc [0, 2, 3] rfl ?_
            have hw := bI_z q63
            subst hw
            have e1 : encT1 t x = [] := by
              rw [encT1, if_neg]
              rintro (z | z)
              · exact z q84
              · rw [bI_z q80] at z
                cases z
            refine ih (j + 1) _ _ _ _ hus2 hj2 hM hr sx ax (by omega) (fun h' σ' α' k1 k2 k3 k4 k5 => hQ h' σ' α' k1 k2 ?_ k4 k5)
            have e2 : encI false t (x :: us) = encT1 t x ++ encI false t us := rfl
            rw [e2, e1, List.nil_append]
            exact k3
          · refine T_aload_n (pc := 87) d_Md_writeDraft_87 rfl ?_
            refine T_iload_n (pc := 88) d_Md_writeDraft_88 rfl ?_
            refine T_iload_n (pc := 89) d_Md_writeDraft_89 rfl ?_
            refine T_ivV (pc := 90) d_Md_writeDraft_90 sI_Md_112 (c_Md_writeTagged hM hsn ht hr (by omega) (fun z => hb z x (List.mem_of_getElem? hx))) hM.1 rfl rfl ⟨(Nat.le_of_ble_eq_true rfl), (Nat.le_of_ble_eq_true rfl)⟩ ⟨(Nat.le_of_ble_eq_true rfl), (Nat.le_of_ble_eq_true rfl)⟩ (Nat.le_of_ble_eq_true rfl) (fun r2 h2 q2 => ?_)
            obtain ⟨σ2, ν2, α2, M2, O2, rfl, rfl, hr2, s2, a2⟩ := q2
            refine T_iinc (pc := 93) d_Md_writeDraft_93 rfl (nI_1 j) (Nat.le_of_ble_eq_true rfl) rfl ?_
            refine T_goto (tgt := 38) (pc := 96) d_Md_writeDraft_96 (by decide) ?_
            refine T_loc [0, 2, 3] rfl ?_
            have hw := bI_z q63
            subst hw
            have hne : x ≠ 0 ∨ t.2.2 = true := by
              first
                | exact Or.inr (bI_n q80)
                | exact Or.inl q84
            have e1 : encT1 t x = vi 4 (keyN t) ++ wInt t.2.1 x := by rw [encT1, if_pos hne]
            have hle := encT1_len (hs.2.2 i t ht).2.2.2.2.1 x
            rw [← e1] at hr2
            refine ih (j + 1) _ _ _ _ hus2 hj2 M2 hr2 (sx.tr s2) (ax.tr a2) (by rw [List.length_append]; omega) (fun h' σ' α' k1 k2 k3 k4 k5 => hQ h' σ' α' k1 (O2.tr k2) ?_ k4 k5)
            rw [List.append_assoc] at k3
            exact k3
      · refine T_aload_n (pc := 66) d_Md_writeDraft_66 rfl ?_
        refine T_iload_n (pc := 67) d_Md_writeDraft_67 rfl ?_
        refine T_ivV (pc := 68) d_Md_writeDraft_68 sI_Md_109 (c_Md_writeWord hM hr (by omega)) hM.1 rfl rfl ⟨(Nat.le_of_ble_eq_true rfl), (Nat.le_of_ble_eq_true rfl)⟩ ⟨(Nat.le_of_ble_eq_true rfl), (Nat.le_of_ble_eq_true rfl)⟩ (Nat.le_of_ble_eq_true rfl) (fun r1 h1 q1 => ?_)
        obtain ⟨σ1, ν1, α1, M1, O1, rfl, rfl, hr1, s1, a1⟩ := q1
        refine T_goto (tgt := 93) (pc := 71) d_Md_writeDraft_71 (by decide) ?_
        refine T_iinc (pc := 93) d_Md_writeDraft_93 rfl (nI_1 j) (Nat.le_of_ble_eq_true rfl) rfl ?_
        refine T_goto (tgt := 38) (pc := 96) d_Md_writeDraft_96 (by decide) ?_
        refine T_loc [0, 2, 3] rfl ?_
        have hw := bI_n q63
        subst hw
        refine ih (j + 1) _ _ _ _ hus2 hj2 M1 hr1 (sx.tr s1) (ax.tr a1) (by rw [List.length_append, wby_len]; omega) (fun h' σ' α' k1 k2 k3 k4 k5 => hQ h' σ' α' k1 (O1.tr k2) ?_ k4 k5)
        rw [List.append_assoc] at k3
        exact k3
set_option maxRecDepth 100000 in
set_option maxHeartbeats 4000000 in
theorem c_Md_writeDraft_out {n m : Nat} {ν : Int64} {σ0 : Nat → Int32} {α0 : Nat → Nat → Int32} {ns : List Sf} {vs : List (List Int32)} {wf : Bool} {Q : aQ} (hs : mSc σ0 α0 ns) (hv : mVa α0 0 ns vs) (ew : σ0 0 = bI wf) (hok : vOk ns vs) : ∀ (ts : List Sf) (us : List (List Int32)) (i : Nat) (h : aH) (σ : Nat → Int32) (α : Nat → Nat → Int32) (l : List Int32), ns.drop i = ts → vs.drop i = us → i ≤ ns.length → Md h m σ ν α → mRe σ α l → sX [8] σ0 σ → aX [6] α0 α → l.length + 32 * ts.length ≤ 210 → (∀ h' σ' α', Md h' m σ' ν α' → mdO h h' m → mRe σ' α' (l ++ enc wf ts us) → sX [8] σ0 σ' → aX [6] α0 α' → Q none h') → Tri M_Md_writeDraft (a_rm 3 0 0) (a_Z 0 0 Q) 2 [(1, .int (nI i)), (0, .ref m)] [] n h 0 0 := by
  have hs4 := hs.1
  have hvl := hv.1
  intro ts
  induction ts with
  | nil =>
    intro us i h σ α l hts hus hi hM hr sx ax hl hQ
    have hi2 : i = ns.length := Nat.le_antisymm hi (List.drop_eq_nil_iff.mp hts)
    subst hi2
    have e1 : σ 1 = nI ns.length := (sx 1 (by decide)).trans hs.2.1
    refine T_iload_n (pc := 2) d_Md_writeDraft_2 rfl ?_
    refine T_aload_n (pc := 3) d_Md_writeDraft_3 rfl ?_
    refine T_get (pc := 4) d_Md_writeDraft_4 sF_Md_75_Md hM.1 rfl ?_
    refine T_icmp_ge (tgt := 105) (pc := 7) d_Md_writeDraft_7 (by decide) (fun q7 => ?_) (fun q7 => ?_)
    · refine T_vret (pc := 105) d_Md_writeDraft_105 rfl rfl (Nat.le_refl _) ?_
      exact hQ h σ α hM mdO.rf (by
        have e : enc wf [] us = [] := by cases wf <;> cases us <;> rfl
        rw [e, List.append_nil]
        exact hr) sx ax
    · exact absurd (by rw [e1]; exact Int32.le_refl _) q7
  | cons t ts ih =>
    intro us i h σ α l hts hus hi hM hr sx ax hl hQ
    simp only [List.length_cons] at hl
    have hi2 : i < ns.length := by
      have := congrArg List.length hts
      simp at this
      omega
    have e1 : σ 1 = nI ns.length := (sx 1 (by decide)).trans hs.2.1
    have ht : ns[i]? = some t := by
      have := congrArg (fun l => l[0]?) hts
      simpa using this
    have hts2 : ns.drop (i + 1) = ts := by
      rw [← List.drop_drop, hts]
      rfl
    obtain ⟨w, hw⟩ : ∃ w, vs[i]? = some w := ⟨_, List.getElem?_eq_getElem (by omega)⟩
    have hus2 : us = w :: vs.drop (i + 1) := by
      rw [← hus, List.drop_eq_getElem_cons (by omega)]
      congr 1
      exact Option.some.inj ((List.getElem?_eq_getElem (by omega)).symm.trans hw)
    subst hus2
    obtain ⟨v1, v2, v3, v4⟩ := hv.2 i t w ht hw
    rw [Nat.zero_add] at v1 v4
    have e0 : σ 0 = bI wf := (sx 0 (by decide)).trans ew
    have e3 : α 3 (nI i).toNatClampNeg = bI t.2.2 := by rw [nI_clamp (by omega), ax 3 (by decide)]; exact (hs.2.2 i t ht).2.2.1
    have em : α 4 (nI i).toNatClampNeg = nI w.length := by rw [nI_clamp (by omega), ax 4 (by decide)]; exact v1
    refine T_iload_n (pc := 2) d_Md_writeDraft_2 rfl ?_
    refine T_aload_n (pc := 3) d_Md_writeDraft_3 rfl ?_
    refine T_get (pc := 4) d_Md_writeDraft_4 sF_Md_75_Md hM.1 rfl ?_
    refine T_icmp_ge (tgt := 105) (pc := 7) d_Md_writeDraft_7 (by decide) (fun q7 => ?_) (fun q7 => ?_)
    · exact absurd q7 (by rw [e1]; exact nI_ge hi2 (by omega))
    · refine T_aload_n (pc := 10) d_Md_writeDraft_10 rfl ?_
      refine T_get (pc := 11) d_Md_writeDraft_11 sF_Md_71_Md hM.1 rfl ?_
      refine T_top (e0) ?_
      refine T_if_eq (tgt := 36) (pc := 14) d_Md_writeDraft_14 (by decide) (fun q14 => ?_) (fun q14 => ?_)
      · refine T_iconst (v := 0) (pc := 36) d_Md_writeDraft_36 rfl ?_
        refine T_istore_n (pc := 37) d_Md_writeDraft_37 rfl (Nat.le_of_ble_eq_true rfl) rfl ?_
        have eE : enc wf (t :: ts) (w :: vs.drop (i + 1)) = encI wf t w ++ enc wf ts (vs.drop (i + 1)) := by
          cases wf with
          | false => rfl
          | true =>
            show encW (t :: ts) (w :: vs.drop (i + 1)) = _
            rw [encW, if_neg, List.nil_append]
            · rfl
            · first
                | exact absurd (bI_z q14) (by decide)
                | (rw [bI_z q23]; decide)
        rw [eE] at hQ
        refine c_Md_writeDraft_in hs ht v1 v2 v4 ew (hok i t w ht hw) w 0 _ _ _ _ List.drop_zero (Nat.zero_le _) hM hr sx ax (by omega) (fun h' σ' α' k1 k2 k3 k4 k5 => ?_)
        have hle : (encI wf t w).length ≤ 7 * w.length := encI_len (hs.2.2 i t ht).2.2.2.2.1
        refine T_iinc (pc := 99) d_Md_writeDraft_99 rfl (nI_1 i) (Nat.le_of_ble_eq_true rfl) rfl ?_
        refine T_goto (tgt := 2) (pc := 102) d_Md_writeDraft_102 (by decide) ?_
        refine T_loc [0, 2] rfl ?_
        refine ih _ (i + 1) _ _ _ _ hts2 rfl hi2 k1 k3 k4 k5 (by simp only [List.length_append, wby_len]; omega) (fun h2 σ2 α2 j1 j2 j3 j4 j5 => hQ h2 σ2 α2 j1 (k2.tr j2) (by simp only [List.append_assoc] at j3 ⊢; exact j3) j4 j5)
      · refine T_aload_n (pc := 17) d_Md_writeDraft_17 rfl ?_
        refine T_get (pc := 18) d_Md_writeDraft_18 sF_Md_16_Md hM.1 rfl ?_
        refine T_iload_n (pc := 21) d_Md_writeDraft_21 rfl ?_
        refine T_zald (N := 4) (pc := 22) d_Md_writeDraft_22 (hM.arr 3) (vp_in_nI (by omega) (by decide)) ?_
        refine T_top (e3) ?_
        refine T_if_eq (tgt := 36) (pc := 23) d_Md_writeDraft_23 (by decide) (fun q23 => ?_) (fun q23 => ?_)
        · refine T_iconst (v := 0) (pc := 36) d_Md_writeDraft_36 rfl ?_
          refine T_istore_n (pc := 37) d_Md_writeDraft_37 rfl (Nat.le_of_ble_eq_true rfl) rfl ?_
          have eE : enc wf (t :: ts) (w :: vs.drop (i + 1)) = encI wf t w ++ enc wf ts (vs.drop (i + 1)) := by
            cases wf with
            | false => rfl
            | true =>
              show encW (t :: ts) (w :: vs.drop (i + 1)) = _
              rw [encW, if_neg, List.nil_append]
              · rfl
              · first
                  | exact absurd (bI_z q14) (by decide)
                  | (rw [bI_z q23]; decide)
          rw [eE] at hQ
          refine c_Md_writeDraft_in hs ht v1 v2 v4 ew (hok i t w ht hw) w 0 _ _ _ _ List.drop_zero (Nat.zero_le _) hM hr sx ax (by omega) (fun h' σ' α' k1 k2 k3 k4 k5 => ?_)
          have hle : (encI wf t w).length ≤ 7 * w.length := encI_len (hs.2.2 i t ht).2.2.2.2.1
          refine T_iinc (pc := 99) d_Md_writeDraft_99 rfl (nI_1 i) (Nat.le_of_ble_eq_true rfl) rfl ?_
          refine T_goto (tgt := 2) (pc := 102) d_Md_writeDraft_102 (by decide) ?_
          refine T_loc [0, 2] rfl ?_
          refine ih _ (i + 1) _ _ _ _ hts2 rfl hi2 k1 k3 k4 k5 (by simp only [List.length_append, wby_len]; omega) (fun h2 σ2 α2 j1 j2 j3 j4 j5 => hQ h2 σ2 α2 j1 (k2.tr j2) (by simp only [List.append_assoc] at j3 ⊢; exact j3) j4 j5)
        · refine T_aload_n (pc := 26) d_Md_writeDraft_26 rfl ?_
          refine T_aload_n (pc := 27) d_Md_writeDraft_27 rfl ?_
          refine T_get (pc := 28) d_Md_writeDraft_28 sF_Md_20_Md hM.1 rfl ?_
          refine T_iload_n (pc := 31) d_Md_writeDraft_31 rfl ?_
          refine T_iald (N := 8) (pc := 32) d_Md_writeDraft_32 (hM.arr 4) (vp_in_nI (by omega) (by decide)) ?_
          refine T_top em ?_
          refine T_ivV (pc := 33) d_Md_writeDraft_33 sI_Md_109 (c_Md_writeWord hM hr (by omega)) hM.1 rfl rfl ⟨(Nat.le_of_ble_eq_true rfl), (Nat.le_of_ble_eq_true rfl)⟩ ⟨(Nat.le_of_ble_eq_true rfl), (Nat.le_of_ble_eq_true rfl)⟩ (Nat.le_of_ble_eq_true rfl) (fun r1 h1 q1 => ?_)
          obtain ⟨σ1, ν1, α1, M1, O1, rfl, rfl, hr1, s1, a1⟩ := q1
          refine T_iconst (v := 0) (pc := 36) d_Md_writeDraft_36 rfl ?_
          refine T_istore_n (pc := 37) d_Md_writeDraft_37 rfl (Nat.le_of_ble_eq_true rfl) rfl ?_
          have hwf := bI_n q14
          subst hwf
          have hrp := bI_n q23
          have eE : enc true (t :: ts) (w :: vs.drop (i + 1)) = wby (nI w.length) ++ (encI true t w ++ enc true ts (vs.drop (i + 1))) := by
            show encW (t :: ts) (w :: vs.drop (i + 1)) = _
            rw [encW, if_pos hrp]
            rfl
          rw [eE] at hQ
          refine c_Md_writeDraft_in hs ht v1 v2 v4 ew (hok i t w ht hw) w 0 _ _ _ _ List.drop_zero (Nat.zero_le _) M1 hr1 (sx.tr s1) (ax.tr a1) (by rw [List.length_append, wby_len]; omega) (fun h' σ' α' k1 k2 k3 k4 k5 => ?_)
          have hle : (encI true t w).length ≤ 7 * w.length := encI_len (hs.2.2 i t ht).2.2.2.2.1
          refine T_iinc (pc := 99) d_Md_writeDraft_99 rfl (nI_1 i) (Nat.le_of_ble_eq_true rfl) rfl ?_
          refine T_goto (tgt := 2) (pc := 102) d_Md_writeDraft_102 (by decide) ?_
          refine T_loc [0, 2] rfl ?_
          refine ih _ (i + 1) _ _ _ _ hts2 rfl hi2 k1 k3 k4 k5 (by simp only [List.length_append, wby_len]; omega) (fun h2 σ2 α2 j1 j2 j3 j4 j5 => hQ h2 σ2 α2 j1 (O1.tr (k2.tr j2)) (by simp only [List.append_assoc] at j3 ⊢; exact j3) j4 j5)
set_option maxRecDepth 100000 in
set_option maxHeartbeats 4000000 in
theorem c_Md_writeDraft {n m : Nat} {h : aH} {σ : Nat → Int32} {ν : Int64} {α : Nat → Nat → Int32} {ns : List Sf} {vs : List (List Int32)} {wf : Bool} {l : List Int32} (hM : Md h m σ ν α) (hs : mSc σ α ns) (hv : mVa α 0 ns vs) (ew : σ 0 = bI wf) (hok : vOk ns vs) (hr : mRe σ α l) (hl : l.length ≤ 50) : Con M_Md_writeDraft 3 0 0 n [.ref m] h (mQ h m (fun r σ' ν' α' => r = none ∧ ν' = ν ∧ mRe σ' α' (l ++ enc wf ns vs) ∧ sX [8] σ σ' ∧ aX [6] α α')) := by
  refine Con.of rfl (Nat.le_of_ble_eq_true rfl) ?_
  refine T_iconst (v := 0) (pc := 0) d_Md_writeDraft_0 rfl ?_
  refine T_istore_n (pc := 1) d_Md_writeDraft_1 rfl (Nat.le_of_ble_eq_true rfl) rfl ?_
  exact c_Md_writeDraft_out hs hv ew hok ns vs 0 h σ α l List.drop_zero List.drop_zero (Nat.zero_le _) hM hr sX.rf aX.rf (by have := hs.1; omega) (fun h' σ' α' k1 k2 k3 k4 k5 => ⟨σ', ν, α', k1, k2, rfl, rfl, k3, k4, k5⟩)
