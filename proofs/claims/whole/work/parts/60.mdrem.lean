/-! OnceWireModel: sendReply, remember, slotOf. -/
abbrev Kt : Type := Int32 × Int32 × Int32
def mKn (σ : Nat → Int32) (α : Nat → Nat → Int32) (kl : List Kt) : Prop := kl.length ≤ 4 ∧ σ 21 = nI kl.length ∧ ∀ i g, kl[i]? = some g → α 12 i = g.1 ∧ α 13 i = g.2.1 ∧ α 14 i = g.2.2
theorem mKn.same {σ σ' : Nat → Int32} {α α' : Nat → Nat → Int32} {kl : List Kt} (h : mKn σ α kl) (e : σ' 21 = σ 21) (e1 : α' 12 = α 12) (e2 : α' 13 = α 13) (e3 : α' 14 = α 14) : mKn σ' α' kl := by
  unfold mKn
  rw [e, e1, e2, e3]
  exact h
def remF (kl : List Kt) (g : Kt) : List Kt := (if kl.length = 4 then kl.tail else kl) ++ [g]
set_option maxRecDepth 100000 in
set_option maxHeartbeats 4000000 in
theorem c_Md_sendReply {n m : Nat} {h : aH} {σ : Nat → Int32} {ν : Int64} {α : Nat → Nat → Int32} {xid stt res : Int32} {ms : List Mg} (hM : Md h m σ ν α) (hn : mNe σ α ms) : Con M_Md_sendReply 2 0 0 n [.ref m, .int xid, .int stt, .int res] h (mQ h m (fun r σ' ν' α' => r = none ∧ ν' = ν ∧ mNe σ' α' (psh ms (repB xid stt res, false)) ∧ sX [8, 10, 13] σ σ' ∧ aX [6, 7, 8, 9, 10] α α')) := by
  refine Con.of rfl (Nat.le_of_ble_eq_true rfl) ?_
  refine T_aload_n (pc := 0) d_Md_sendReply_0 rfl ?_
  refine T_iconst (v := 0) (pc := 1) d_Md_sendReply_1 rfl ?_
  refine T_put (pc := 2) d_Md_sendReply_2 sF_Md_87_Md hM.1 (Nat.le_of_ble_eq_true rfl) (a_fit_i _) (T_up (fun h2x1 g2x1 o2x1 => ?_))
  have M2x1 := hM.put 8 _ g2x1 o2x1 rfl
  have O2x1 := mdO.o (j := 0) mdO.rf o2x1 (by decide)
  have hr0 : mRe (upd σ 8 0) α [] := ⟨by simp, pk_us, Rw.nil⟩
  have s0 : sX [8] σ (upd σ 8 0) := sX.rf.up (by decide)
  refine T_aload_n (pc := 5) d_Md_sendReply_5 rfl ?_
  refine T_iload_n (pc := 6) d_Md_sendReply_6 rfl ?_
  refine T_ivV (pc := 7) d_Md_sendReply_7 sI_Md_109 (c_Md_writeWord M2x1 hr0 (by simp [wby_len])) M2x1.1 rfl rfl ⟨(Nat.le_of_ble_eq_true rfl), (Nat.le_of_ble_eq_true rfl)⟩ ⟨(Nat.le_of_ble_eq_true rfl), (Nat.le_of_ble_eq_true rfl)⟩ (Nat.le_of_ble_eq_true rfl) (fun r1 h1 q1 => ?_)
  obtain ⟨σ1, ν1, α1, M1, O1, rfl, rfl, hr1, s1, a1⟩ := q1
  refine T_aload_n (pc := 10) d_Md_sendReply_10 rfl ?_
  refine T_iconst (v := 1) (pc := 11) d_Md_sendReply_11 rfl ?_
  refine T_ivV (pc := 12) d_Md_sendReply_12 sI_Md_109 (c_Md_writeWord M1 hr1 (by simp [wby_len])) M1.1 rfl rfl ⟨(Nat.le_of_ble_eq_true rfl), (Nat.le_of_ble_eq_true rfl)⟩ ⟨(Nat.le_of_ble_eq_true rfl), (Nat.le_of_ble_eq_true rfl)⟩ (Nat.le_of_ble_eq_true rfl) (fun r2 h2 q2 => ?_)
  obtain ⟨σ2, ν2, α2, M2, O2, rfl, rfl, hr2, s2, a2⟩ := q2
  refine T_aload_n (pc := 15) d_Md_sendReply_15 rfl ?_
  refine T_iload_n (pc := 16) d_Md_sendReply_16 rfl ?_
  refine T_ivV (pc := 17) d_Md_sendReply_17 sI_Md_109 (c_Md_writeWord M2 hr2 (by simp [wby_len])) M2.1 rfl rfl ⟨(Nat.le_of_ble_eq_true rfl), (Nat.le_of_ble_eq_true rfl)⟩ ⟨(Nat.le_of_ble_eq_true rfl), (Nat.le_of_ble_eq_true rfl)⟩ (Nat.le_of_ble_eq_true rfl) (fun r3 h3 q3 => ?_)
  obtain ⟨σ3, ν3, α3, M3, O3, rfl, rfl, hr3, s3, a3⟩ := q3
  refine T_iload_n (pc := 20) d_Md_sendReply_20 rfl ?_
  refine T_if_ne (tgt := 29) (pc := 21) d_Md_sendReply_21 (by decide) (fun q21 => ?_) (fun q21 => ?_)
  · refine T_aload_n (pc := 29) d_Md_sendReply_29 rfl ?_
    have eR : ([] ++ wby xid ++ wby 1 ++ wby stt) = repR xid stt res := by
      unfold repR
      rw [if_neg q21]
      simp
    have hr9 := hr3
    rw [eR] at hr9
    have sA := (((s0.tr s1).tr s2).tr s3)
    have aA := ((a1.tr a2).tr a3)
    have hlb : (repB xid stt res).length ≤ 20 := repB_len xid stt res
    refine T_ivV (pc := 30) d_Md_sendReply_30 sI_Md_169 (c_Md_fragment (M := []) M3 hr9 (Nat.le_trans hlb (by decide))) M3.1 rfl rfl ⟨(Nat.le_of_ble_eq_true rfl), (Nat.le_of_ble_eq_true rfl)⟩ ⟨(Nat.le_of_ble_eq_true rfl), (Nat.le_of_ble_eq_true rfl)⟩ (Nat.le_of_ble_eq_true rfl) (fun r5 h5 q5 => ?_)
    obtain ⟨σ5, ν5, α5, M5, O5, rfl, rfl, hm5, s5, a5⟩ := q5
    have hn5 := hn.same ((s5 13 (by decide)).trans (sA 13 (by decide))) ((a5 8 (by decide)).trans (aA 8 (by decide))) ((a5 9 (by decide)).trans (aA 9 (by decide))) ((a5 10 (by decide)).trans (aA 10 (by decide)))
    refine T_aload_n (pc := 33) d_Md_sendReply_33 rfl ?_
    refine T_iconst (v := 1) (pc := 34) d_Md_sendReply_34 rfl ?_
    refine T_ivV (pc := 35) d_Md_sendReply_35 sI_Md_129 (c_Md_send (b := false) M5 hm5 hn5 (Nat.le_trans hlb (by decide))) M5.1 rfl rfl ⟨(Nat.le_of_ble_eq_true rfl), (Nat.le_of_ble_eq_true rfl)⟩ ⟨(Nat.le_of_ble_eq_true rfl), (Nat.le_of_ble_eq_true rfl)⟩ (Nat.le_of_ble_eq_true rfl) (fun r6 h6 q6 => ?_)
    obtain ⟨σ6, ν6, α6, M6, O6, rfl, rfl, hn6, s6, a6⟩ := q6
    refine T_vret (pc := 38) d_Md_sendReply_38 rfl rfl (Nat.le_refl _) ?_
    exact ⟨_, _, _, M6, (mdO.tr (mdO.tr (mdO.tr (mdO.tr (mdO.tr O2x1 O1) O2) O3) O5) O6), rfl, rfl, hn6, ((sX.mono sA (by decide)).tr (sX.mono s5 (by decide))).tr (sX.mono s6 (by decide)), ((aX.mono aA (by decide)).tr (aX.mono a5 (by decide))).tr (aX.mono a6 (by decide))⟩
  · refine T_aload_n (pc := 24) d_Md_sendReply_24 rfl ?_
    refine T_iload_n (pc := 25) d_Md_sendReply_25 rfl ?_
    refine T_ivV (pc := 26) d_Md_sendReply_26 sI_Md_109 (c_Md_writeWord M3 hr3 (by simp [wby_len])) M3.1 rfl rfl ⟨(Nat.le_of_ble_eq_true rfl), (Nat.le_of_ble_eq_true rfl)⟩ ⟨(Nat.le_of_ble_eq_true rfl), (Nat.le_of_ble_eq_true rfl)⟩ (Nat.le_of_ble_eq_true rfl) (fun r4 h4 q4 => ?_)
    obtain ⟨σ4, ν4, α4, M4, O4, rfl, rfl, hr4, s4, a4⟩ := q4
    refine T_aload_n (pc := 29) d_Md_sendReply_29 rfl ?_
    have eR : ([] ++ wby xid ++ wby 1 ++ wby stt ++ wby res) = repR xid stt res := by
      unfold repR
      rw [if_pos q21]
      simp
    have hr9 := hr4
    rw [eR] at hr9
    have sA := ((((s0.tr s1).tr s2).tr s3).tr s4)
    have aA := (((a1.tr a2).tr a3).tr a4)
    have hlb : (repB xid stt res).length ≤ 20 := repB_len xid stt res
    refine T_ivV (pc := 30) d_Md_sendReply_30 sI_Md_169 (c_Md_fragment (M := []) M4 hr9 (Nat.le_trans hlb (by decide))) M4.1 rfl rfl ⟨(Nat.le_of_ble_eq_true rfl), (Nat.le_of_ble_eq_true rfl)⟩ ⟨(Nat.le_of_ble_eq_true rfl), (Nat.le_of_ble_eq_true rfl)⟩ (Nat.le_of_ble_eq_true rfl) (fun r5 h5 q5 => ?_)
    obtain ⟨σ5, ν5, α5, M5, O5, rfl, rfl, hm5, s5, a5⟩ := q5
    have hn5 := hn.same ((s5 13 (by decide)).trans (sA 13 (by decide))) ((a5 8 (by decide)).trans (aA 8 (by decide))) ((a5 9 (by decide)).trans (aA 9 (by decide))) ((a5 10 (by decide)).trans (aA 10 (by decide)))
    refine T_aload_n (pc := 33) d_Md_sendReply_33 rfl ?_
    refine T_iconst (v := 1) (pc := 34) d_Md_sendReply_34 rfl ?_
    refine T_ivV (pc := 35) d_Md_sendReply_35 sI_Md_129 (c_Md_send (b := false) M5 hm5 hn5 (Nat.le_trans hlb (by decide))) M5.1 rfl rfl ⟨(Nat.le_of_ble_eq_true rfl), (Nat.le_of_ble_eq_true rfl)⟩ ⟨(Nat.le_of_ble_eq_true rfl), (Nat.le_of_ble_eq_true rfl)⟩ (Nat.le_of_ble_eq_true rfl) (fun r6 h6 q6 => ?_)
    obtain ⟨σ6, ν6, α6, M6, O6, rfl, rfl, hn6, s6, a6⟩ := q6
    refine T_vret (pc := 38) d_Md_sendReply_38 rfl rfl (Nat.le_refl _) ?_
    exact ⟨_, _, _, M6, (mdO.tr (mdO.tr (mdO.tr (mdO.tr (mdO.tr (mdO.tr O2x1 O1) O2) O3) O4) O5) O6), rfl, rfl, hn6, ((sX.mono sA (by decide)).tr (sX.mono s5 (by decide))).tr (sX.mono s6 (by decide)), ((aX.mono aA (by decide)).tr (aX.mono a5 (by decide))).tr (aX.mono a6 (by decide))⟩
set_option maxRecDepth 100000 in
set_option maxHeartbeats 4000000 in
theorem c_Md_remember_app {n m : Nat} {h : aH} {σ : Nat → Int32} {ν : Int64} {α : Nat → Nat → Int32} {kl : List Kt} {x1 x2 x3 : Int32} {Q : aQ} (hM : Md h m σ ν α) (hk : mKn σ α kl) (hl : kl.length < 4) (hQ : ∀ h' σ' α', Md h' m σ' ν α' → mdO h h' m → mKn σ' α' (kl ++ [(x1, x2, x3)]) → sX [21] σ σ' → aX [12, 13, 14] α α' → Q none h') : Tri M_Md_remember (a_rm 0 0 0) (a_Z 0 0 Q) 76 [(0, .ref m), (1, .int x1), (2, .int x2), (3, .int x3)] [] n h 0 0 := by
  have e := hk.2.1
  refine T_aload_n (pc := 76) d_Md_remember_76 rfl ?_
  refine T_get (pc := 77) d_Md_remember_77 sF_Md_44_Md hM.1 rfl ?_
  refine T_aload_n (pc := 80) d_Md_remember_80 rfl ?_
  refine T_get (pc := 81) d_Md_remember_81 sF_Md_182_Md hM.1 rfl ?_
  refine T_iload_n (pc := 84) d_Md_remember_84 rfl ?_
  refine T_iast (N := 4) (pc := 85) d_Md_remember_85 (by omega) (hM.arr 12) (by rw [e]; exact vp_in_nI hl (by decide)) (T_up (fun h85x1 g85x1 o85x1 => ?_))
  have M85x1 := hM.ast 12 g85x1 o85x1
  have O85x1 := mdO.o (j := 12) mdO.rf o85x1 (by decide)
  refine T_aload_n (pc := 86) d_Md_remember_86 rfl ?_
  refine T_get (pc := 87) d_Md_remember_87 sF_Md_47_Md M85x1.1 rfl ?_
  refine T_aload_n (pc := 90) d_Md_remember_90 rfl ?_
  refine T_get (pc := 91) d_Md_remember_91 sF_Md_182_Md M85x1.1 rfl ?_
  refine T_iload_n (pc := 94) d_Md_remember_94 rfl ?_
  refine T_iast (N := 4) (pc := 95) d_Md_remember_95 (by omega) (M85x1.arr 13) (by rw [e]; exact vp_in_nI hl (by decide)) (T_up (fun h95x2 g95x2 o95x2 => ?_))
  have M95x2 := M85x1.ast 13 g95x2 o95x2
  have O95x2 := mdO.o (j := 13) O85x1 o95x2 (by decide)
  refine T_aload_n (pc := 96) d_Md_remember_96 rfl ?_
  refine T_get (pc := 97) d_Md_remember_97 sF_Md_50_Md M95x2.1 rfl ?_
  refine T_aload_n (pc := 100) d_Md_remember_100 rfl ?_
  refine T_get (pc := 101) d_Md_remember_101 sF_Md_182_Md M95x2.1 rfl ?_
  refine T_iload_n (pc := 104) d_Md_remember_104 rfl ?_
  refine T_iast (N := 4) (pc := 105) d_Md_remember_105 (by omega) (M95x2.arr 14) (by rw [e]; exact vp_in_nI hl (by decide)) (T_up (fun h105x3 g105x3 o105x3 => ?_))
  have M105x3 := M95x2.ast 14 g105x3 o105x3
  have O105x3 := mdO.o (j := 14) O95x2 o105x3 (by decide)
  refine T_aload_n (pc := 106) d_Md_remember_106 rfl ?_
  refine T_dup (pc := 107) d_Md_remember_107 rfl ?_
  refine T_get (pc := 108) d_Md_remember_108 sF_Md_182_Md M105x3.1 rfl ?_
  refine T_iconst (v := 1) (pc := 111) d_Md_remember_111 rfl ?_
  refine T_iadd (pc := 112) d_Md_remember_112 ?_
  refine T_put (pc := 113) d_Md_remember_113 sF_Md_182_Md M105x3.1 (Nat.le_of_ble_eq_true rfl) (a_fit_i _) (T_up (fun h113x4 g113x4 o113x4 => ?_))
  have M113x4 := M105x3.put 21 _ g113x4 o113x4 rfl
  have O113x4 := mdO.o (j := 0) O105x3 o113x4 (by decide)
  refine T_vret (pc := 116) d_Md_remember_116 rfl rfl (Nat.le_refl _) ?_
  have M9 := M113x4
  rw [va_up_ne _ _ (show (14 : Nat) ≠ 13 by decide), va_up_ne _ _ (show (14 : Nat) ≠ 12 by decide), va_up_ne _ _ (show (13 : Nat) ≠ 12 by decide), e, nI_1, nI_clamp (by omega)] at M9
  refine hQ _ _ _ M9 O113x4 ⟨by simp; omega, by rw [pk_us]; simp, fun i g hg => ?_⟩ (sX.rf.up (by decide)) (((aX.rf.up (by decide)).up (by decide)).up (by decide))
  rw [va_up_ne _ _ (show (12 : Nat) ≠ 14 by decide), va_up_ne _ _ (show (12 : Nat) ≠ 13 by decide), va_up_self, va_up_ne _ _ (show (13 : Nat) ≠ 14 by decide), va_up_self, va_up_self]
  by_cases z : i = kl.length
  · subst z
    rw [List.getElem?_append_right (Nat.le_refl _), Nat.sub_self] at hg
    cases hg
    exact ⟨pk_us, pk_us, pk_us⟩
  · have hi := (List.getElem?_eq_some_iff.mp hg).1
    simp at hi
    rw [List.getElem?_append_left (by omega)] at hg
    rw [pk_un z, pk_un z, pk_un z]
    exact hk.2.2 i g hg
set_option maxRecDepth 100000 in
set_option maxHeartbeats 4000000 in
theorem c_Md_remember_loop {n m : Nat} {σ : Nat → Int32} {ν : Int64} {R : Room} {Z : aZ} {x1 x2 x3 : Int32} {f1 f2 f3 : Nat → Int32} : ∀ (t i : Nat) (h : aH) (α : Nat → Nat → Int32), i + t = 3 → Md h m σ ν α → α 12 = shI f1 0 i → α 13 = shI f2 0 i → α 14 = shI f3 0 i → (∀ h' α', Md h' m σ ν α' → mdO h h' m → aX [12, 13, 14] α α' → α' 12 = shI f1 0 3 → α' 13 = shI f2 0 3 → α' 14 = shI f3 0 3 → Tri M_Md_remember R Z 71 [(4, .int (nI 3)), (0, .ref m), (1, .int x1), (2, .int x2), (3, .int x3)] [] n h' 0 0) → Tri M_Md_remember R Z 11 [(4, .int (nI i)), (0, .ref m), (1, .int x1), (2, .int x2), (3, .int x3)] [] n h 0 0 := by
  intro t
  induction t with
  | zero =>
    intro i h α hit hM g1 g2 g3 hQ
    have hi : i = 3 := by omega
    subst hi
    refine T_iload (pc := 11) d_Md_remember_11 rfl ?_
    refine T_iconst (v := 3) (pc := 13) d_Md_remember_13 rfl ?_
    refine T_icmp_ge (tgt := 71) (pc := 14) d_Md_remember_14 (by decide) (fun q14 => ?_) (fun q14 => ?_)
    · exact hQ h α hM mdO.rf aX.rf g1 g2 g3
    · exact absurd (Int32.le_refl _) q14
  | succ t ih =>
    intro i h α hit hM g1 g2 g3 hQ
    refine T_iload (pc := 11) d_Md_remember_11 rfl ?_
    refine T_iconst (v := 3) (pc := 13) d_Md_remember_13 rfl ?_
    refine T_icmp_ge (tgt := 71) (pc := 14) d_Md_remember_14 (by decide) (fun q14 => ?_) (fun q14 => ?_)
    · exact absurd q14 (nI_ge (b := 3) (by omega) (by decide))
    · refine T_aload_n (pc := 17) d_Md_remember_17 rfl ?_
      refine T_get (pc := 18) d_Md_remember_18 sF_Md_44_Md hM.1 rfl ?_
      refine T_iload (pc := 21) d_Md_remember_21 rfl ?_
      refine T_aload_n (pc := 23) d_Md_remember_23 rfl ?_
      refine T_get (pc := 24) d_Md_remember_24 sF_Md_44_Md hM.1 rfl ?_
      refine T_iload (pc := 27) d_Md_remember_27 rfl ?_
      refine T_iconst (v := 1) (pc := 29) d_Md_remember_29 rfl ?_
      refine T_iadd (pc := 30) d_Md_remember_30 ?_
      refine T_iald (N := 4) (pc := 31) d_Md_remember_31 (hM.arr 12) (by rw [nI_1]; exact vp_in_nI (by omega) (by decide)) ?_
      refine T_iast (N := 4) (pc := 32) d_Md_remember_32 (by omega) (hM.arr 12) (vp_in_nI (by omega) (by decide)) (T_up (fun h32x1 g32x1 o32x1 => ?_))
      have M32x1 := hM.ast 12 g32x1 o32x1
      have O32x1 := mdO.o (j := 12) mdO.rf o32x1 (by decide)
      refine T_aload_n (pc := 33) d_Md_remember_33 rfl ?_
      refine T_get (pc := 34) d_Md_remember_34 sF_Md_47_Md M32x1.1 rfl ?_
      refine T_iload (pc := 37) d_Md_remember_37 rfl ?_
      refine T_aload_n (pc := 39) d_Md_remember_39 rfl ?_
      refine T_get (pc := 40) d_Md_remember_40 sF_Md_47_Md M32x1.1 rfl ?_
      refine T_iload (pc := 43) d_Md_remember_43 rfl ?_
      refine T_iconst (v := 1) (pc := 45) d_Md_remember_45 rfl ?_
      refine T_iadd (pc := 46) d_Md_remember_46 ?_
      refine T_iald (N := 4) (pc := 47) d_Md_remember_47 (M32x1.arr 13) (by rw [nI_1]; exact vp_in_nI (by omega) (by decide)) ?_
      refine T_iast (N := 4) (pc := 48) d_Md_remember_48 (by omega) (M32x1.arr 13) (vp_in_nI (by omega) (by decide)) (T_up (fun h48x2 g48x2 o48x2 => ?_))
      have M48x2 := M32x1.ast 13 g48x2 o48x2
      have O48x2 := mdO.o (j := 13) O32x1 o48x2 (by decide)
      refine T_aload_n (pc := 49) d_Md_remember_49 rfl ?_
      refine T_get (pc := 50) d_Md_remember_50 sF_Md_50_Md M48x2.1 rfl ?_
      refine T_iload (pc := 53) d_Md_remember_53 rfl ?_
      refine T_aload_n (pc := 55) d_Md_remember_55 rfl ?_
      refine T_get (pc := 56) d_Md_remember_56 sF_Md_50_Md M48x2.1 rfl ?_
      refine T_iload (pc := 59) d_Md_remember_59 rfl ?_
      refine T_iconst (v := 1) (pc := 61) d_Md_remember_61 rfl ?_
      refine T_iadd (pc := 62) d_Md_remember_62 ?_
      refine T_iald (N := 4) (pc := 63) d_Md_remember_63 (M48x2.arr 14) (by rw [nI_1]; exact vp_in_nI (by omega) (by decide)) ?_
      refine T_iast (N := 4) (pc := 64) d_Md_remember_64 (by omega) (M48x2.arr 14) (vp_in_nI (by omega) (by decide)) (T_up (fun h64x3 g64x3 o64x3 => ?_))
      have M64x3 := M48x2.ast 14 g64x3 o64x3
      have O64x3 := mdO.o (j := 14) O48x2 o64x3 (by decide)
      refine T_iinc (pc := 65) d_Md_remember_65 rfl (nI_1 i) (Nat.le_of_ble_eq_true rfl) rfl ?_
      refine T_goto (tgt := 11) (pc := 68) d_Md_remember_68 (by decide) ?_
      have M9 := M64x3
      rw [va_up_ne _ _ (show (14 : Nat) ≠ 13 by decide), va_up_ne _ _ (show (14 : Nat) ≠ 12 by decide), va_up_ne _ _ (show (13 : Nat) ≠ 12 by decide), nI_1, nI_clamp (by omega), nI_clamp (by omega), g1, g2, g3, shI_at, shI_at, shI_at, shI_s _ (Nat.zero_le _), shI_s _ (Nat.zero_le _), shI_s _ (Nat.zero_le _)] at M9
      exact ih (i + 1) _ _ (by omega) M9 (by rw [va_up_ne _ _ (show (12 : Nat) ≠ 14 by decide), va_up_ne _ _ (show (12 : Nat) ≠ 13 by decide), va_up_self]) (by rw [va_up_ne _ _ (show (13 : Nat) ≠ 14 by decide), va_up_self]) (by rw [va_up_self]) (fun h' α' k1 k2 k3 k4 k5 k6 => hQ h' α' k1 (mdO.tr O64x3 k2) ((((aX.rf.up (by decide)).up (by decide)).up (by decide)).tr k3) k4 k5 k6)
set_option maxRecDepth 100000 in
set_option maxHeartbeats 4000000 in
theorem c_Md_remember {n m : Nat} {h : aH} {σ : Nat → Int32} {ν : Int64} {α : Nat → Nat → Int32} {x1 x2 x3 : Int32} {kl : List Kt} (hM : Md h m σ ν α) (hk : mKn σ α kl) : Con M_Md_remember 0 0 0 n [.ref m, .int x1, .int x2, .int x3] h (mQ h m (fun r σ' ν' α' => r = none ∧ ν' = ν ∧ mKn σ' α' (remF kl (x1, x2, x3)) ∧ sX [21] σ σ' ∧ aX [12, 13, 14] α α')) := by
  refine Con.of rfl (Nat.le_of_ble_eq_true rfl) ?_
  refine T_aload_n (pc := 0) d_Md_remember_0 rfl ?_
  refine T_get (pc := 1) d_Md_remember_1 sF_Md_182_Md hM.1 rfl ?_
  refine T_iconst (v := 4) (pc := 4) d_Md_remember_4 rfl ?_
  refine T_icmp_ne (tgt := 76) (pc := 5) d_Md_remember_5 (by decide) (fun q5 => ?_) (fun q5 => ?_)
  · have hk4 := hk.1
    have hl : kl.length < 4 := by
      rcases Nat.lt_or_ge kl.length 4 with z | z
      · exact z
      · exact absurd (by rw [hk.2.1, show kl.length = 4 by omega]; rfl) q5
    refine c_Md_remember_app hM hk hl (fun h' σ' α' k1 k2 k3 k4 k5 => ⟨_, _, _, k1, k2, rfl, rfl, ?_, k4, k5⟩)
    unfold remF
    rw [if_neg (by omega)]
    exact k3
  · refine T_iconst (v := 0) (pc := 8) d_Md_remember_8 rfl ?_
    refine T_istore (pc := 9) d_Md_remember_9 (Nat.le_of_ble_eq_true rfl) rfl ?_
    refine c_Md_remember_loop (f1 := α 12) (f2 := α 13) (f3 := α 14) 3 0 h α rfl hM (shI_0 _ _).symm (shI_0 _ _).symm (shI_0 _ _).symm (fun h1 α1 M1 O1 a1 g1 g2 g3 => ?_)
    refine T_aload_n (pc := 71) d_Md_remember_71 rfl ?_
    refine T_iconst (v := 3) (pc := 72) d_Md_remember_72 rfl ?_
    refine T_put (pc := 73) d_Md_remember_73 sF_Md_182_Md M1.1 (Nat.le_of_ble_eq_true rfl) (a_fit_i _) (T_up (fun h73x1 g73x1 o73x1 => ?_))
    have M73x1 := M1.put 21 _ g73x1 o73x1 rfl
    have O73x1 := mdO.o (j := 0) O1 o73x1 (by decide)
    have h21 : σ 21 = nI 4 := q5
    have hk4 := hk.1
    rw [hk.2.1] at h21
    have hl4 := (nI_eq (a := kl.length) (b := 4) (by omega) (by decide)).mp h21
    have hkt : mKn (upd σ 21 3) α1 kl.tail := by
      refine ⟨by simp; omega, by rw [pk_us, List.length_tail, hl4]; rfl, fun i g hg => ?_⟩
      rw [List.getElem?_tail] at hg
      have hi := (List.getElem?_eq_some_iff.mp hg).1
      have sh : ∀ f : Nat → Int32, shI f 0 3 i = f (i + 1) := fun f => by unfold shI; rw [if_pos (by omega)]
      rw [g1, g2, g3, sh, sh, sh]
      exact hk.2.2 (i + 1) g hg
    refine T_loc [1, 2, 3, 4] rfl ?_
    refine c_Md_remember_app M73x1 hkt (by simp; omega) (fun h' σ' α' k1 k2 k3 k4 k5 => ⟨_, _, _, k1, mdO.tr O73x1 k2, rfl, rfl, ?_, (sX.rf.up (by decide)).tr k4, a1.tr k5⟩)
    unfold remF
    rw [if_pos hl4]
    exact k3
set_option maxRecDepth 100000 in
set_option maxHeartbeats 4000000 in
theorem c_Md_slotOf_loop {n m : Nat} {h : aH} {σ : Nat → Int32} {ν : Int64} {α : Nat → Nat → Int32} {x : Int32} {Q : aQ} (hM : Md h m σ ν α) (hQ : ∀ s, s ≤ 8 → (∀ j, j < s → α 20 j ≠ x) → (s < 8 → α 20 s = x) → Q (some (.int (nI s))) h) : ∀ (t i : Nat), i + t = 8 → (∀ j, j < i → α 20 j ≠ x) → Tri M_Md_slotOf (a_rm 0 0 0) (a_Z 0 0 Q) 2 [(2, .int (nI i)), (0, .ref m), (1, .int x)] [] n h 0 0 := by
  intro t
  induction t with
  | zero =>
    intro i hit hno
    have hi : i = 8 := by omega
    subst hi
    refine T_iload_n (pc := 2) d_Md_slotOf_2 rfl ?_
    refine T_bipush (v := 8) (pc := 3) d_Md_slotOf_3 rfl ?_
    refine T_icmp_ge (tgt := 24) (pc := 5) d_Md_slotOf_5 (by decide) (fun q5 => ?_) (fun q5 => ?_)
    · refine T_iload_n (pc := 24) d_Md_slotOf_24 rfl ?_
      refine T_iret (pc := 25) d_Md_slotOf_25 rfl rfl (Nat.le_refl _) ?_
      exact hQ 8 (Nat.le_refl _) hno (fun z => absurd z (by decide))
    · exact absurd (Int32.le_refl _) q5
  | succ t ih =>
    intro i hit hno
    refine T_iload_n (pc := 2) d_Md_slotOf_2 rfl ?_
    refine T_bipush (v := 8) (pc := 3) d_Md_slotOf_3 rfl ?_
    refine T_icmp_ge (tgt := 24) (pc := 5) d_Md_slotOf_5 (by decide) (fun q5 => ?_) (fun q5 => ?_)
    · refine T_iload_n (pc := 24) d_Md_slotOf_24 rfl ?_
      refine T_iret (pc := 25) d_Md_slotOf_25 rfl rfl (Nat.le_refl _) ?_
      first
        | exact absurd q5 (nI_ge (b := 8) (by omega) (by decide))
        | exact hQ i (by omega) hno (fun _ => by rw [nI_clamp (by omega)] at q15; exact q15)
    · refine T_aload_n (pc := 8) d_Md_slotOf_8 rfl ?_
      refine T_get (pc := 9) d_Md_slotOf_9 sF_Md_68_Md hM.1 rfl ?_
      refine T_iload_n (pc := 12) d_Md_slotOf_12 rfl ?_
      refine T_iald (N := 8) (pc := 13) d_Md_slotOf_13 (hM.arr 20) (vp_in_nI (by omega) (by decide)) ?_
      refine T_iload_n (pc := 14) d_Md_slotOf_14 rfl ?_
      refine T_icmp_eq (tgt := 24) (pc := 15) d_Md_slotOf_15 (by decide) (fun q15 => ?_) (fun q15 => ?_)
      · refine T_iload_n (pc := 24) d_Md_slotOf_24 rfl ?_
        refine T_iret (pc := 25) d_Md_slotOf_25 rfl rfl (Nat.le_refl _) ?_
        first
          | exact absurd q5 (nI_ge (b := 8) (by omega) (by decide))
          | exact hQ i (by omega) hno (fun _ => by rw [nI_clamp (by omega)] at q15; exact q15)
      · refine T_iinc (pc := 18) d_Md_slotOf_18 rfl (nI_1 i) (Nat.le_of_ble_eq_true rfl) rfl ?_
        refine T_goto (tgt := 2) (pc := 21) d_Md_slotOf_21 (by decide) ?_
        rw [nI_clamp (by omega)] at q15
        exact ih (i + 1) (by omega) (fun j hj => by
          by_cases e : j = i
          · rw [e]
            exact q15
          · exact hno j (by omega))
set_option maxRecDepth 100000 in
set_option maxHeartbeats 4000000 in
theorem c_Md_slotOf {n m : Nat} {h : aH} {σ : Nat → Int32} {ν : Int64} {α : Nat → Nat → Int32} {x : Int32} (hM : Md h m σ ν α) : Con M_Md_slotOf 0 0 0 n [.ref m, .int x] h (fun r h' => ∃ s, r = some (.int (nI s)) ∧ s ≤ 8 ∧ (∀ j, j < s → α 20 j ≠ x) ∧ (s < 8 → α 20 s = x) ∧ h' = h) := by
  refine Con.of rfl (Nat.le_of_ble_eq_true rfl) ?_
  refine T_iconst (v := 0) (pc := 0) d_Md_slotOf_0 rfl ?_
  refine T_istore_n (pc := 1) d_Md_slotOf_1 rfl (Nat.le_of_ble_eq_true rfl) rfl ?_
  exact c_Md_slotOf_loop hM (fun s k1 k2 k3 => ⟨s, rfl, k1, k2, k3, rfl⟩) 8 0 rfl (fun j hj => absurd hj (Nat.not_lt_zero j))
