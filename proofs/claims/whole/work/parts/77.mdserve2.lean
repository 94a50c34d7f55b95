/-! OnceWireModel.serve, whole. -/
set_option maxRecDepth 100000 in
set_option maxHeartbeats 4000000 in
theorem c_Md_serve_loop {n m : Nat} {h : aH} {σ : Nat → Int32} {ν : Int64} {α : Nat → Nat → Int32} {kl : List Kt} {ms : List Mg} {ns : List Sf} {vs : List (List Int32)} {l : List Int32} {wf : Bool} {Q : aQ} (hM : Md h m σ ν α) (hk : mKn σ α kl) (hn : mNe σ α ms) (hs : mSc σ α ns) (hv : mVa α 4 ns vs) (hr : mRe σ α l) (ew : σ 0 = bI wf) (h12 : 12 ≤ l.length) (hby : byt l) (hnn : nsN ns) : ∀ (us : List Kt) (i : Nat), kl.drop i = us → i ≤ kl.length → (∀ r h', srQ h m σ α ns (match kmF (wat l 0) us with | some k => (1, kl, σ 19, σ 20, psh ms (repB (wat l 0) k.2.1 k.2.2, false)) | none => msN wf ns kl (σ 19) (σ 20) ms l) r h' → Q r h') → Tri M_Md_serve (a_rm 4 0 0) (a_Z 0 0 Q) 38 [(2, .int (nI i)), (1, .int (wat l 0)), (0, .ref m)] [] n h 0 0 := by
  have hk4 := hk.1
  have hk21 := hk.2.1
  intro us
  induction us with
  | nil =>
    intro i hus hi hQ
    have hi2 : i = kl.length := Nat.le_antisymm hi (List.drop_eq_nil_iff.mp hus)
    refine T_iload_n (pc := 38) d_Md_serve_38 rfl ?_
    refine T_aload_n (pc := 39) d_Md_serve_39 rfl ?_
    refine T_get (pc := 40) d_Md_serve_40 sF_Md_182_Md hM.1 rfl ?_
    refine T_icmp_ge (tgt := 81) (pc := 43) d_Md_serve_43 (by decide) (fun q43 => ?_) (fun q43 => absurd q43 (fun z => z (by rw [hk21, hi2]; exact Int32.le_refl _)))
    exact c_Md_serve_new hM hk hn hs hv hr ew h12 hby hnn hQ
  | cons g us ih =>
    intro i hus hi hQ
    have hi2 : i < kl.length := by
      have := congrArg List.length hus
      simp at this
      omega
    have hg : kl[i]? = some g := by
      have := congrArg (fun l => l[0]?) hus
      simpa using this
    have hus2 : kl.drop (i + 1) = us := by
      rw [← List.drop_drop, hus]
      rfl
    obtain ⟨g1, g2, g3⟩ := hk.2.2 i g hg
    have e1 : α 12 (nI i).toNatClampNeg = g.1 := by rw [nI_clamp (by omega)]; exact g1
    have e2 : α 13 (nI i).toNatClampNeg = g.2.1 := by rw [nI_clamp (by omega)]; exact g2
    have e3 : α 14 (nI i).toNatClampNeg = g.2.2 := by rw [nI_clamp (by omega)]; exact g3
    refine T_iload_n (pc := 38) d_Md_serve_38 rfl ?_
    refine T_aload_n (pc := 39) d_Md_serve_39 rfl ?_
    refine T_get (pc := 40) d_Md_serve_40 sF_Md_182_Md hM.1 rfl ?_
    refine T_icmp_ge (tgt := 81) (pc := 43) d_Md_serve_43 (by decide) (fun q43 => absurd q43 (by rw [hk21]; exact nI_ge hi2 (by omega))) (fun q43 => ?_)
    refine T_aload_n (pc := 46) d_Md_serve_46 rfl ?_
    refine T_get (pc := 47) d_Md_serve_47 sF_Md_44_Md hM.1 rfl ?_
    refine T_iload_n (pc := 50) d_Md_serve_50 rfl ?_
    refine T_iald (N := 4) (pc := 51) d_Md_serve_51 (hM.arr 12) (vp_in_nI (by omega) (by decide)) ?_
    refine T_top (e1) ?_
    refine T_iload_n (pc := 52) d_Md_serve_52 rfl ?_
    refine T_icmp_ne (tgt := 75) (pc := 53) d_Md_serve_53 (by decide) (fun q53 => ?_) (fun q53 => ?_)
    · refine T_iinc (pc := 75) d_Md_serve_75 rfl (nI_1 i) (Nat.le_of_ble_eq_true rfl) rfl ?_
      refine T_goto (tgt := 38) (pc := 78) d_Md_serve_78 (by decide) ?_
      rw [kmF, if_neg q53] at hQ
      exact ih (i + 1) hus2 hi2 hQ
    · refine T_aload_n (pc := 56) d_Md_serve_56 rfl ?_
      refine T_iload_n (pc := 57) d_Md_serve_57 rfl ?_
      refine T_aload_n (pc := 58) d_Md_serve_58 rfl ?_
      refine T_get (pc := 59) d_Md_serve_59 sF_Md_47_Md hM.1 rfl ?_
      refine T_iload_n (pc := 62) d_Md_serve_62 rfl ?_
      refine T_iald (N := 4) (pc := 63) d_Md_serve_63 (hM.arr 13) (vp_in_nI (by omega) (by decide)) ?_
      refine T_top (e2) ?_
      refine T_aload_n (pc := 64) d_Md_serve_64 rfl ?_
      refine T_get (pc := 65) d_Md_serve_65 sF_Md_50_Md hM.1 rfl ?_
      refine T_iload_n (pc := 68) d_Md_serve_68 rfl ?_
      refine T_iald (N := 4) (pc := 69) d_Md_serve_69 (hM.arr 14) (vp_in_nI (by omega) (by decide)) ?_
      refine T_top e3 ?_
      refine T_ivV (pc := 70) d_Md_serve_70 sI_Md_188 (c_Md_sendReply hM hn) hM.1 rfl rfl ⟨(Nat.le_of_ble_eq_true rfl), (Nat.le_of_ble_eq_true rfl)⟩ ⟨(Nat.le_of_ble_eq_true rfl), (Nat.le_of_ble_eq_true rfl)⟩ (Nat.le_of_ble_eq_true rfl) (fun r1 h1 q1 => ?_)
      obtain ⟨σ1, ν1, α1, M1, O1, rfl, e9, hn1, s1, a1⟩ := q1
      rw [kmF, if_pos q53] at hQ
      refine T_iconst (v := 1) (pc := 73) d_Md_serve_73 rfl ?_
      refine T_iret (pc := 74) d_Md_serve_74 rfl rfl (Nat.le_refl _) ?_
      exact hQ _ _ ⟨_, _, _, M1, vF.of O1 s1 a1 (by decide) (by decide), rfl, hk.same (s1 21 (by decide)) (a1 12 (by decide)) (a1 13 (by decide)) (a1 14 (by decide)), s1 19 (by decide), s1 20 (by decide), hn1, vs, hv.same (a1 4 (by decide)) (a1 5 (by decide))⟩
set_option maxRecDepth 100000 in
set_option maxHeartbeats 4000000 in
theorem c_Md_serve {n m : Nat} {h : aH} {σ : Nat → Int32} {ν : Int64} {α : Nat → Nat → Int32} {kl : List Kt} {ms : List Mg} {ns : List Sf} {vs : List (List Int32)} {l2 : List Int32} {wf : Bool} (hM : Md h m σ ν α) (hk : mKn σ α kl) (hn : mNe σ α ms) (hs : mSc σ α ns) (hv : mVa α 4 ns vs) (hm : mMe σ α l2) (hby : byt l2) (ew : σ 0 = bI wf) (hnn : nsN ns) : Con M_Md_serve 4 0 0 n [.ref m] h (srQ h m σ α ns (msF wf ns kl (σ 19) (σ 20) ms l2)) := by
  refine Con.of rfl (Nat.le_of_ble_eq_true rfl) ?_
  refine T_aload_n (pc := 0) d_Md_serve_0 rfl ?_
  refine T_ivV (pc := 1) d_Md_serve_1 sI_Md_185 (c_Md_gather hM hm hby) hM.1 rfl rfl ⟨(Nat.le_of_ble_eq_true rfl), (Nat.le_of_ble_eq_true rfl)⟩ ⟨(Nat.le_of_ble_eq_true rfl), (Nat.le_of_ble_eq_true rfl)⟩ (Nat.le_of_ble_eq_true rfl) (fun r1 h1 q1 => ?_)
  obtain ⟨σ1, ν1, α1, M1, O1, e1, s1, a1, k1⟩ := q1
  have F1 : vF h h1 m σ σ1 α α1 := vF.of O1 s1 a1 (by decide) (by decide)
  have hk1 : mKn σ1 α1 kl := hk.same (s1 21 (by decide)) (a1 12 (by decide)) (a1 13 (by decide)) (a1 14 (by decide))
  have hn1 : mNe σ1 α1 ms := hn.same (s1 13 (by decide)) (a1 8 (by decide)) (a1 9 (by decide)) (a1 10 (by decide))
  have v1 : mVa α1 4 ns vs := hv.same (a1 4 (by decide)) (a1 5 (by decide))
  have e19 : σ1 19 = σ 19 := s1 19 (by decide)
  have e20 : σ1 20 = σ 20 := s1 20 (by decide)
  rcases hX : uw 60 l2 with _ | l
  · rw [hX] at k1
    obtain ⟨rfl, R, hR⟩ := k1
    have eF : msF wf ns kl (σ 19) (σ 20) ms l2 = (-2, kl, σ 19, σ 20, ms) := by unfold msF; rw [hX]
    rw [eF]
    refine T_if_eq (tgt := 16) (pc := 4) d_Md_serve_4 (by decide) (fun q4 => ?_) (fun q4 => absurd q4 (by decide))
    refine T_bipush (v := -2) (pc := 16) d_Md_serve_16 rfl ?_
    refine T_iret (pc := 18) d_Md_serve_18 rfl rfl (Nat.le_refl _) ?_
    exact ⟨_, _, _, M1, F1, rfl, hk1, e19, e20, hn1, _, v1⟩
  · rw [hX] at k1
    obtain ⟨rfl, hr1⟩ := k1
    have hby1 : byt l := uw_byt 60 l2 l hby hX
    have hl210 := hr1.1
    have eF : msF wf ns kl (σ 19) (σ 20) ms l2 = if l.length < 12 then (-2, kl, σ 19, σ 20, ms) else if wat l 4 ≠ 0 then (-3, kl, σ 19, σ 20, ms) else msG wf ns kl (σ 19) (σ 20) ms l := by unfold msF; rw [hX]
    rw [eF]
    refine T_if_eq (tgt := 16) (pc := 4) d_Md_serve_4 (by decide) (fun q4 => absurd q4 (by decide)) (fun q4 => ?_)
    refine T_aload_n (pc := 7) d_Md_serve_7 rfl ?_
    refine T_get (pc := 8) d_Md_serve_8 sF_Md_87_Md M1.1 rfl ?_
    refine T_bipush (v := 12) (pc := 11) d_Md_serve_11 rfl ?_
    rw [show σ1 8 = nI l.length from hr1.2.1]
    refine T_icmp_ge (tgt := 19) (pc := 13) d_Md_serve_13 (by decide) (fun q13 => ?_) (fun q13 => ?_)
    · have h12 : 12 ≤ l.length := by
        rcases Nat.lt_or_ge l.length 12 with z | z
        · exact absurd q13 (nI_ge z (by decide))
        · exact z
      rw [if_neg (by omega)]
      refine T_aload_n (pc := 19) d_Md_serve_19 rfl ?_
      refine T_iconst (v := 4) (pc := 20) d_Md_serve_20 rfl ?_
      refine T_ivV (pc := 21) d_Md_serve_21 sI_Md_160 (c_Md_word (p := 4) M1 hr1 (by omega)) M1.1 rfl rfl ⟨(Nat.le_of_ble_eq_true rfl), (Nat.le_of_ble_eq_true rfl)⟩ ⟨(Nat.le_of_ble_eq_true rfl), (Nat.le_of_ble_eq_true rfl)⟩ (Nat.le_of_ble_eq_true rfl) (fun r2 h2 q2 => ?_)
      obtain ⟨rfl, e2⟩ := q2
      rw [e2]
      refine T_if_eq (tgt := 30) (pc := 24) d_Md_serve_24 (by decide) (fun q24 => ?_) (fun q24 => ?_)
      · refine T_aload_n (pc := 30) d_Md_serve_30 rfl ?_
        refine T_iconst (v := 0) (pc := 31) d_Md_serve_31 rfl ?_
        rw [if_neg (fun z => z q24)]
        refine T_ivV (pc := 32) d_Md_serve_32 sI_Md_160 (c_Md_word (p := 0) M1 hr1 (by omega)) M1.1 rfl rfl ⟨(Nat.le_of_ble_eq_true rfl), (Nat.le_of_ble_eq_true rfl)⟩ ⟨(Nat.le_of_ble_eq_true rfl), (Nat.le_of_ble_eq_true rfl)⟩ (Nat.le_of_ble_eq_true rfl) (fun r3 h3 q3 => ?_)
        obtain ⟨rfl, e3⟩ := q3
        rw [e3]
        refine T_istore_n (pc := 35) d_Md_serve_35 rfl (Nat.le_of_ble_eq_true rfl) rfl ?_
        refine T_iconst (v := 0) (pc := 36) d_Md_serve_36 rfl ?_
        refine T_istore_n (pc := 37) d_Md_serve_37 rfl (Nat.le_of_ble_eq_true rfl) rfl ?_
        exact c_Md_serve_loop M1 hk1 hn1 (hs.same (s1 1 (by decide)) (a1 1 (by decide)) (a1 2 (by decide)) (a1 3 (by decide))) v1 hr1 ((s1 0 (by decide)).trans ew) h12 hby1 hnn kl 0 List.drop_zero (Nat.zero_le _) (fun r h' q => by
          have q9 := q.up F1
          rw [e19, e20] at q9
          exact q9)
      · rw [if_pos q24]
        refine T_bipush (v := -3) (pc := 27) d_Md_serve_27 rfl ?_
        refine T_iret (pc := 29) d_Md_serve_29 rfl rfl (Nat.le_refl _) ?_
        exact ⟨_, _, _, M1, F1, rfl, hk1, e19, e20, hn1, _, v1⟩
    · have hlt : l.length < 12 := by
        rcases Nat.lt_or_ge l.length 12 with z | z
        · exact z
        · exact absurd (nI_le z (by omega)) q13
      rw [if_pos hlt]
      refine T_bipush (v := -2) (pc := 16) d_Md_serve_16 rfl ?_
      refine T_iret (pc := 18) d_Md_serve_18 rfl rfl (Nat.le_refl _) ?_
      exact ⟨_, _, _, M1, F1, rfl, hk1, e19, e20, hn1, _, v1⟩
