/-! OnceWireModel.readBody. -/
set_option maxRecDepth 100000 in
set_option maxHeartbeats 4000000 in
theorem c_Md_readBody {n m : Nat} {h : aH} {σ : Nat → Int32} {ν : Int64} {α : Nat → Nat → Int32} {ns : List Sf} {vs : List (List Int32)} {l : List Int32} {wf : Bool} (hM : Md h m σ ν α) (hs : mSc σ α ns) (hv : mVa α 4 ns vs) (hr : mRe σ α l) (ew : σ 0 = bI wf) (h12 : 12 ≤ l.length) (hby : byt l) (hn : nsN ns) : Con M_Md_readBody 3 0 0 n [.ref m] h (rbQ h m σ α ns (dec wf ns (l.drop 12))) := by
  refine Con.of rfl (Nat.le_of_ble_eq_true rfl) ?_
  refine T_iconst (v := 0) (pc := 0) d_Md_readBody_0 rfl ?_
  refine T_istore_n (pc := 1) d_Md_readBody_1 rfl (Nat.le_of_ble_eq_true rfl) rfl ?_
  refine c_Md_readBody_loop (d := 3) (by decide) ns 0 h α vs List.drop_zero (Nat.zero_le _) hM hs hv (fun h1 α1 M1 O1 a1 v1 x4 x5 => ?_)
  have hs1 : mSc σ α1 ns := hs.same rfl (a1 1 (by decide)) (a1 2 (by decide)) (a1 3 (by decide))
  have hr1 : mRe σ α1 l := hr.same rfl (a1 6 (by decide))
  rw [List.take_zero, List.nil_append] at v1
  refine T_aload_n (pc := 23) d_Md_readBody_23 rfl ?_
  refine T_bipush (v := 12) (pc := 24) d_Md_readBody_24 rfl ?_
  refine T_put (pc := 26) d_Md_readBody_26 sF_Md_134_Md M1.1 (Nat.le_of_ble_eq_true rfl) (a_fit_i _) (T_up (fun h26x1 g26x1 o26x1 => ?_))
  have M26x1 := M1.put 11 _ g26x1 o26x1 rfl
  have O26x1 := mdO.o (j := 0) O1 o26x1 (by decide)
  refine T_aload_n (pc := 29) d_Md_readBody_29 rfl ?_
  refine T_get (pc := 30) d_Md_readBody_30 sF_Md_71_Md M26x1.1 rfl ?_
  cases wf with
  | false =>
    have F1 : rF h _ m σ (upd σ 11 12) α α1 := ⟨O26x1, sX.rf.up (by decide), a1, x4, x5⟩
    refine T_top (show (upd σ 11 12) 0 = 0 by rw [pk_un (by decide)]; exact ew) ?_
    refine T_if_eq (tgt := 43) (pc := 33) d_Md_readBody_33 (by decide) (fun q33 => ?_) (fun q33 => absurd q33 (by decide))
    refine T_aload_n (pc := 43) d_Md_readBody_43 rfl ?_
    refine T_ivV (pc := 44) d_Md_readBody_44 sI_Md_166 (c_Md_readTaggedBody (p := 12) M26x1 (hs.rF F1) v1 (hr.rF F1) pk_us h12 hby hn) M26x1.1 rfl rfl ⟨(Nat.le_of_ble_eq_true rfl), (Nat.le_of_ble_eq_true rfl)⟩ ⟨(Nat.le_of_ble_eq_true rfl), (Nat.le_of_ble_eq_true rfl)⟩ (Nat.le_of_ble_eq_true rfl) (fun r2 h2 q2 => ?_)
    replace q2 := q2.up F1
    obtain ⟨σ2, ν2, α2, M2, F2, k2⟩ := id q2
    rcases hX : dtF (l.length - 12) ns (vnil ns) (l.drop 12) with _ | vs'
    · rw [hX] at k2
      obtain ⟨rfl, k2⟩ := k2
      refine T_zret (pc := 47) d_Md_readBody_47 rfl (by decide) rfl (Nat.le_refl _) ?_
      show rbQ h m σ α ns (decT ns (l.drop 12)) _ _
      unfold decT
      rw [List.length_drop]
      exact q2
    · rw [hX] at k2
      obtain ⟨rfl, k2⟩ := k2
      refine T_zret (pc := 47) d_Md_readBody_47 rfl (by decide) rfl (Nat.le_refl _) ?_
      show rbQ h m σ α ns (decT ns (l.drop 12)) _ _
      unfold decT
      rw [List.length_drop]
      exact q2
  | true =>
    have F1 : rF h _ m σ (upd σ 11 12) α α1 := ⟨O26x1, sX.rf.up (by decide), a1, x4, x5⟩
    refine T_top (show (upd σ 11 12) 0 = 1 by rw [pk_un (by decide)]; exact ew) ?_
    refine T_if_eq (tgt := 43) (pc := 33) d_Md_readBody_33 (by decide) (fun q33 => absurd q33 (by decide)) (fun q33 => ?_)
    refine T_aload_n (pc := 36) d_Md_readBody_36 rfl ?_
    refine T_ivV (pc := 37) d_Md_readBody_37 sI_Md_163 (c_Md_readWords (p := 12) M26x1 (hs.rF F1) v1 (hr.rF F1) pk_us h12) M26x1.1 rfl rfl ⟨(Nat.le_of_ble_eq_true rfl), (Nat.le_of_ble_eq_true rfl)⟩ ⟨(Nat.le_of_ble_eq_true rfl), (Nat.le_of_ble_eq_true rfl)⟩ (Nat.le_of_ble_eq_true rfl) (fun r2 h2 q2 => ?_)
    replace q2 := q2.up F1
    obtain ⟨σ2, ν2, α2, M2, F2, k2⟩ := id q2
    rcases hX : decW ns (l.drop 12) with _ | vs'
    · rw [hX] at k2
      obtain ⟨rfl, k2⟩ := k2
      refine T_goto (tgt := 47) (pc := 40) d_Md_readBody_40 (by decide) ?_
      refine T_zret (pc := 47) d_Md_readBody_47 rfl (by decide) rfl (Nat.le_refl _) ?_
      show rbQ h m σ α ns (decW ns (l.drop 12)) _ _
      unfold rbQ
      exact q2
    · rw [hX] at k2
      obtain ⟨rfl, k2⟩ := k2
      refine T_goto (tgt := 47) (pc := 40) d_Md_readBody_40 (by decide) ?_
      refine T_zret (pc := 47) d_Md_readBody_47 rfl (by decide) rfl (Nat.le_refl _) ?_
      show rbQ h m σ α ns (decW ns (l.drop 12)) _ _
      unfold rbQ
      exact q2
