/-! OnceWireModel.serve. -/
theorem uw_byt : ∀ (k : Nat) (l x : List Int32), byt l → uw k l = some x → byt x
  | 0, l, x, _, h => by cases h
  | k + 1, l, x, hb, h => by
    have h1 : ∀ n, byt ((l.drop 4).take n) := fun n b hm => hb b (List.mem_of_mem_drop (List.mem_of_mem_take hm))
    rw [uw] at h
    split at h
    · cases h
    · split at h
      · cases h
      · split at h
        · split at h
          · cases h
            exact h1 _
          · cases h
        · obtain ⟨y, hy, rfl⟩ := Option.map_eq_some_iff.mp h
          have h2 := uw_byt k _ y (fun b hm => hb b (List.mem_of_mem_drop hm)) hy
          intro b hm
          rcases List.mem_append.mp hm with z | z
          · exact h1 _ b z
          · exact h2 b z
def vF (h h' : aH) (m : Nat) (σ σ' : Nat → Int32) (α α' : Nat → Nat → Int32) : Prop := mdO h h' m ∧ sX [8, 10, 11, 13, 19, 20, 21] σ σ' ∧ aX [4, 5, 6, 7, 8, 9, 10, 12, 13, 14] α α' ∧ (∀ q, q < 4 ∨ 4 + 4 ≤ q → α' 4 q = α 4 q) ∧ (∀ q, q < 4 * 4 ∨ 4 * 4 + 16 ≤ q → α' 5 q = α 5 q)
theorem vF.rf {h : aH} {m : Nat} {σ : Nat → Int32} {α : Nat → Nat → Int32} : vF h h m σ σ α α := ⟨mdO.rf, sX.rf, aX.rf, fun _ _ => rfl, fun _ _ => rfl⟩
theorem vF.tr {h h1 h2 : aH} {m : Nat} {σ σ1 σ2 : Nat → Int32} {α α1 α2 : Nat → Nat → Int32} (a : vF h h1 m σ σ1 α α1) (b : vF h1 h2 m σ1 σ2 α1 α2) : vF h h2 m σ σ2 α α2 := ⟨a.1.tr b.1, a.2.1.tr b.2.1, a.2.2.1.tr b.2.2.1, fun q z => (b.2.2.2.1 q z).trans (a.2.2.2.1 q z), fun q z => (b.2.2.2.2 q z).trans (a.2.2.2.2 q z)⟩
theorem rF.v {h h' : aH} {m : Nat} {σ σ' : Nat → Int32} {α α' : Nat → Nat → Int32} (a : rF h h' m σ σ' α α') : vF h h' m σ σ' α α' := ⟨a.1, a.2.1.mono (by decide), a.2.2.1.mono (by decide), a.2.2.2.1, a.2.2.2.2⟩
theorem vF.of {h h' : aH} {m : Nat} {σ σ' : Nat → Int32} {α α' : Nat → Nat → Int32} {I J : List Nat} (o : mdO h h' m) (s : sX I σ σ') (a : aX J α α') (hI : ∀ k, k ∈ I → k ∈ [8, 10, 11, 13, 19, 20, 21]) (hJ : ∀ k, k ∈ J → k ∈ [6, 7, 8, 9, 10, 12, 13, 14]) : vF h h' m σ σ' α α' := ⟨o, s.mono hI, a.mono (fun k hk => by have := hJ k hk; simp at this ⊢; omega), fun q _ => by rw [a 4 (fun z => by have := hJ 4 z; simp at this)], fun q _ => by rw [a 5 (fun z => by have := hJ 5 z; simp at this)]⟩
abbrev Sx : Type := Int32 × List Kt × Int32 × Int32 × List Mg
def srQ (h : aH) (m : Nat) (σ : Nat → Int32) (α : Nat → Nat → Int32) (ns : List Sf) (X : Sx) : aQ := fun r h' => ∃ σ' ν' α', Md h' m σ' ν' α' ∧ vF h h' m σ σ' α α' ∧ r = some (.int X.1) ∧ mKn σ' α' X.2.1 ∧ σ' 19 = X.2.2.1 ∧ σ' 20 = X.2.2.2.1 ∧ mNe σ' α' X.2.2.2.2 ∧ ∃ svs', mVa α' 4 ns svs'
theorem srQ.up {h h0 : aH} {m : Nat} {σ σ0 : Nat → Int32} {α α0 : Nat → Nat → Int32} {ns : List Sf} {X : Sx} {r : Option Value} {h' : aH} (q : srQ h m σ α ns X r h') (f : vF h0 h m σ0 σ α0 α) : srQ h0 m σ0 α0 ns X r h' := by
  obtain ⟨σ', ν', α', M, F, k⟩ := q
  exact ⟨σ', ν', α', M, f.tr F, k⟩
def kmF (x : Int32) : List Kt → Option Kt
  | [] => none
  | k :: t => if k.1 = x then some k else kmF x t
def msN (wf : Bool) (ns : List Sf) (kl : List Kt) (tot run : Int32) (ms : List Mg) (l : List Int32) : Sx := ((ansF wf ns l (wat l 8) tot run).1, remF kl (wat l 0, (ansF wf ns l (wat l 8) tot run).2.1, (ansF wf ns l (wat l 8) tot run).2.2.1), (ansF wf ns l (wat l 8) tot run).2.2.2.1, (ansF wf ns l (wat l 8) tot run).2.2.2.2, psh ms (repB (wat l 0) (ansF wf ns l (wat l 8) tot run).2.1 (ansF wf ns l (wat l 8) tot run).2.2.1, false))
def msG (wf : Bool) (ns : List Sf) (kl : List Kt) (tot run : Int32) (ms : List Mg) (l : List Int32) : Sx := match kmF (wat l 0) kl with
  | some k => (1, kl, tot, run, psh ms (repB (wat l 0) k.2.1 k.2.2, false))
  | none => msN wf ns kl tot run ms l
def msF (wf : Bool) (ns : List Sf) (kl : List Kt) (tot run : Int32) (ms : List Mg) (l2 : List Int32) : Sx := match uw 60 l2 with
  | none => (-2, kl, tot, run, ms)
  | some l => if l.length < 12 then (-2, kl, tot, run, ms) else if wat l 4 ≠ 0 then (-3, kl, tot, run, ms) else msG wf ns kl tot run ms l
set_option maxRecDepth 100000 in
set_option maxHeartbeats 4000000 in
theorem c_Md_serve_rem {n m : Nat} {h : aH} {σ : Nat → Int32} {ν : Int64} {α : Nat → Nat → Int32} {kl : List Kt} {ms : List Mg} {xid stt res pr : Int32} {Z : aZ} (hM : Md h m σ ν α) (hk : mKn σ α kl) (hn : mNe σ α ms) (hK : ∀ h' σ' α', Md h' m σ' ν α' → mdO h h' m → mKn σ' α' (remF kl (xid, stt, res)) → mNe σ' α' (psh ms (repB xid stt res, false)) → sX [8, 10, 13, 21] σ σ' → aX [6, 7, 8, 9, 10, 12, 13, 14] α α' → Tri M_Md_serve (a_rm 4 0 0) Z 145 [(4, .int res), (3, .int stt), (2, .int pr), (1, .int xid), (0, .ref m)] [] n h' 0 0) : Tri M_Md_serve (a_rm 4 0 0) Z 129 [(4, .int res), (3, .int stt), (2, .int pr), (1, .int xid), (0, .ref m)] [] n h 0 0 := by
  refine T_aload_n (pc := 129) d_Md_serve_129 rfl ?_
  refine T_iload_n (pc := 130) d_Md_serve_130 rfl ?_
  refine T_iload_n (pc := 131) d_Md_serve_131 rfl ?_
  refine T_iload (pc := 132) d_Md_serve_132 rfl ?_
  refine T_ivV (pc := 134) d_Md_serve_134 sI_Md_198 (c_Md_remember hM hk) hM.1 rfl rfl ⟨(Nat.le_of_ble_eq_true rfl), (Nat.le_of_ble_eq_true rfl)⟩ ⟨(Nat.le_of_ble_eq_true rfl), (Nat.le_of_ble_eq_true rfl)⟩ (Nat.le_of_ble_eq_true rfl) (fun r1 h1 q1 => ?_)
  obtain ⟨σ1, ν1, α1, M1, O1, rfl, e1, hk1, s1, a1⟩ := q1
  rw [e1] at M1
  refine T_aload_n (pc := 137) d_Md_serve_137 rfl ?_
  refine T_iload_n (pc := 138) d_Md_serve_138 rfl ?_
  refine T_iload_n (pc := 139) d_Md_serve_139 rfl ?_
  refine T_iload (pc := 140) d_Md_serve_140 rfl ?_
  refine T_ivV (pc := 142) d_Md_serve_142 sI_Md_188 (c_Md_sendReply M1 (hn.same (s1 13 (by decide)) (a1 8 (by decide)) (a1 9 (by decide)) (a1 10 (by decide)))) M1.1 rfl rfl ⟨(Nat.le_of_ble_eq_true rfl), (Nat.le_of_ble_eq_true rfl)⟩ ⟨(Nat.le_of_ble_eq_true rfl), (Nat.le_of_ble_eq_true rfl)⟩ (Nat.le_of_ble_eq_true rfl) (fun r2 h2 q2 => ?_)
  obtain ⟨σ2, ν2, α2, M2, O2, rfl, e2, hn2, s2, a2⟩ := q2
  rw [e2] at M2
  exact hK h2 σ2 α2 M2 (O1.tr O2) (hk1.same (s2 21 (by decide)) (a2 12 (by decide)) (a2 13 (by decide)) (a2 14 (by decide))) hn2 ((s1.mono (by decide)).tr (s2.mono (by decide))) ((a1.mono (by decide)).tr (a2.mono (by decide)))
set_option maxRecDepth 100000 in
set_option maxHeartbeats 4000000 in
theorem c_Md_serve_new {n m : Nat} {h : aH} {σ : Nat → Int32} {ν : Int64} {α : Nat → Nat → Int32} {kl : List Kt} {ms : List Mg} {ns : List Sf} {vs : List (List Int32)} {l : List Int32} {wf : Bool} {j : Int32} {Q : aQ} (hM : Md h m σ ν α) (hk : mKn σ α kl) (hn : mNe σ α ms) (hs : mSc σ α ns) (hv : mVa α 4 ns vs) (hr : mRe σ α l) (ew : σ 0 = bI wf) (h12 : 12 ≤ l.length) (hby : byt l) (hnn : nsN ns) (hQ : ∀ r h', srQ h m σ α ns (msN wf ns kl (σ 19) (σ 20) ms l) r h' → Q r h') : Tri M_Md_serve (a_rm 4 0 0) (a_Z 0 0 Q) 81 [(2, .int j), (1, .int (wat l 0)), (0, .ref m)] [] n h 0 0 := by
  refine T_aload_n (pc := 81) d_Md_serve_81 rfl ?_
  refine T_bipush (v := 8) (pc := 82) d_Md_serve_82 rfl ?_
  refine T_ivV (pc := 84) d_Md_serve_84 sI_Md_160 (c_Md_word (p := 8) hM hr (by omega)) hM.1 rfl rfl ⟨(Nat.le_of_ble_eq_true rfl), (Nat.le_of_ble_eq_true rfl)⟩ ⟨(Nat.le_of_ble_eq_true rfl), (Nat.le_of_ble_eq_true rfl)⟩ (Nat.le_of_ble_eq_true rfl) (fun r1 h1 q1 => ?_)
  obtain ⟨rfl, e1⟩ := q1
  rw [e1]
  refine T_istore_n (pc := 87) d_Md_serve_87 rfl (Nat.le_of_ble_eq_true rfl) rfl ?_
  refine T_iload_n (pc := 88) d_Md_serve_88 rfl ?_
  refine T_if_lt (tgt := 97) (pc := 89) d_Md_serve_89 (by decide) (fun q89 => ?_) (fun q89 => ?_)
  · have hbad : wat l 8 < 0 ∨ 3 < wat l 8 := by
      first
        | exact Or.inl q89
        | exact Or.inr (Int32.not_le.mp q94)
    have eA : ansF wf ns l (wat l 8) (σ 19) (σ 20) = (2, 1, 0, σ 19, σ 20) := if_pos hbad
    unfold msN at hQ
    rw [eA] at hQ
    refine T_iconst (v := 1) (pc := 97) d_Md_serve_97 rfl ?_
    refine T_goto (tgt := 113) (pc := 98) d_Md_serve_98 (by decide) ?_
    refine T_istore_n (pc := 113) d_Md_serve_113 rfl (Nat.le_of_ble_eq_true rfl) rfl ?_
    refine T_iload_n (pc := 114) d_Md_serve_114 rfl ?_
    refine T_if_ne (tgt := 126) (pc := 115) d_Md_serve_115 (by decide) (fun q115 => ?_) (fun q115 => absurd q115 (by decide))
    refine T_iconst (v := 0) (pc := 126) d_Md_serve_126 rfl ?_
    refine T_istore (pc := 127) d_Md_serve_127 (Nat.le_of_ble_eq_true rfl) rfl ?_
    refine c_Md_serve_rem hM hk hn (fun h' σ' α' k1 k2 k3 k4 k5 k6 => ?_)
    have F9 := vF.of k2 k5 k6 (by decide) (by decide)
    refine T_iload_n (pc := 145) d_Md_serve_145 rfl ?_
    refine T_if_ne (tgt := 153) (pc := 146) d_Md_serve_146 (by decide) (fun q146 => ?_) (fun q146 => absurd q146 (by decide))
    refine T_iload_n (pc := 153) d_Md_serve_153 rfl ?_
    refine T_iconst (v := 1) (pc := 154) d_Md_serve_154 rfl ?_
    refine T_icmp_ne (tgt := 162) (pc := 155) d_Md_serve_155 (by decide) (fun q155 => absurd q155 (by decide)) (fun q155 => ?_)
    refine T_iconst (v := 2) (pc := 158) d_Md_serve_158 rfl ?_
    refine T_goto (tgt := 163) (pc := 159) d_Md_serve_159 (by decide) ?_
    refine T_iret (pc := 163) d_Md_serve_163 rfl rfl (Nat.le_refl _) ?_
    exact hQ _ _ ⟨σ', _, α', k1, vF.rf.tr F9, rfl, k3, (k5 19 (by decide)).trans rfl, (k5 20 (by decide)).trans rfl, k4, _, mVa.same hv (k6 4 (by decide)) (k6 5 (by decide))⟩
  · refine T_iload_n (pc := 92) d_Md_serve_92 rfl ?_
    refine T_iconst (v := 3) (pc := 93) d_Md_serve_93 rfl ?_
    refine T_icmp_le (tgt := 101) (pc := 94) d_Md_serve_94 (by decide) (fun q94 => ?_) (fun q94 => ?_)
    · refine T_aload_n (pc := 101) d_Md_serve_101 rfl ?_
      obtain ⟨kp, hkp, ekp⟩ : ∃ kp : Nat, kp ≤ 3 ∧ wat l 8 = nI kp := nI_of2 (M := 3) (by decide) q89 q94
      have hgood : ¬ (wat l 8 < 0 ∨ 3 < wat l 8) := by
        rintro (z | z)
        · exact q89 z
        · exact absurd q94 (Int32.not_le.mpr z)
      refine T_ivV (pc := 102) d_Md_serve_102 sI_Md_192 (c_Md_readBody hM hs hv hr ew h12 hby hnn) hM.1 rfl rfl ⟨(Nat.le_of_ble_eq_true rfl), (Nat.le_of_ble_eq_true rfl)⟩ ⟨(Nat.le_of_ble_eq_true rfl), (Nat.le_of_ble_eq_true rfl)⟩ (Nat.le_of_ble_eq_true rfl) (fun r2 h2 q2 => ?_)
      obtain ⟨σ2, ν2, α2, M2, F2, k2⟩ := q2
      have s2 := F2.2.1
      have a2 := F2.2.2.1
      have hk2 : mKn σ2 α2 kl := hk.same (s2 21 (by decide)) (a2 12 (by decide)) (a2 13 (by decide)) (a2 14 (by decide))
      have hn2 : mNe σ2 α2 ms := hn.same (s2 13 (by decide)) (a2 8 (by decide)) (a2 9 (by decide)) (a2 10 (by decide))
      have e19 : σ2 19 = σ 19 := s2 19 (by decide)
      have e20 : σ2 20 = σ 20 := s2 20 (by decide)
      rcases hX : dec wf ns (l.drop 12) with _ | vs'
      · rw [hX] at k2
        obtain ⟨rfl, vs2, v2⟩ := k2
        have eA : ansF wf ns l (wat l 8) (σ 19) (σ 20) = (3, 2, 0, σ 19, σ 20) := by unfold ansF; rw [if_neg hgood, hX]
        unfold msN at hQ
        rw [eA] at hQ
        refine T_if_eq (tgt := 112) (pc := 105) d_Md_serve_105 (by decide) (fun q105 => ?_) (fun q105 => absurd q105 (by decide))
        refine T_iconst (v := 2) (pc := 112) d_Md_serve_112 rfl ?_
        refine T_istore_n (pc := 113) d_Md_serve_113 rfl (Nat.le_of_ble_eq_true rfl) rfl ?_
        refine T_iload_n (pc := 114) d_Md_serve_114 rfl ?_
        refine T_if_ne (tgt := 126) (pc := 115) d_Md_serve_115 (by decide) (fun q115 => ?_) (fun q115 => absurd q115 (by decide))
        refine T_iconst (v := 0) (pc := 126) d_Md_serve_126 rfl ?_
        refine T_istore (pc := 127) d_Md_serve_127 (Nat.le_of_ble_eq_true rfl) rfl ?_
        refine c_Md_serve_rem M2 hk2 hn2 (fun h' σ' α' k1 k2 k3 k4 k5 k6 => ?_)
        have F9 := vF.of k2 k5 k6 (by decide) (by decide)
        refine T_iload_n (pc := 145) d_Md_serve_145 rfl ?_
        refine T_if_ne (tgt := 153) (pc := 146) d_Md_serve_146 (by decide) (fun q146 => ?_) (fun q146 => absurd q146 (by decide))
        refine T_iload_n (pc := 153) d_Md_serve_153 rfl ?_
        refine T_iconst (v := 1) (pc := 154) d_Md_serve_154 rfl ?_
        refine T_icmp_ne (tgt := 162) (pc := 155) d_Md_serve_155 (by decide) (fun q155 => ?_) (fun q155 => absurd q155 (by decide))
        refine T_iconst (v := 3) (pc := 162) d_Md_serve_162 rfl ?_
        refine T_iret (pc := 163) d_Md_serve_163 rfl rfl (Nat.le_refl _) ?_
        exact hQ _ _ ⟨σ', _, α', k1, F2.v.tr F9, rfl, k3, (k5 19 (by decide)).trans e19, (k5 20 (by decide)).trans e20, k4, _, mVa.same v2 (k6 4 (by decide)) (k6 5 (by decide))⟩
      · rw [hX] at k2
        obtain ⟨rfl, v2⟩ := k2
        have eA : ansF wf ns l (wat l 8) (σ 19) (σ 20) = (0, 0, rnR kp (σ 19) (dgF ns vs' 0), rnT kp (σ 19) (dgF ns vs' 0), σ 20 + 1) := by unfold ansF; rw [if_neg hgood, hX, ekp, nI_clamp (by omega)]
        unfold msN at hQ
        rw [eA] at hQ
        refine T_if_eq (tgt := 112) (pc := 105) d_Md_serve_105 (by decide) (fun q105 => absurd q105 (by decide)) (fun q105 => ?_)
        refine T_iconst (v := 0) (pc := 108) d_Md_serve_108 rfl ?_
        refine T_goto (tgt := 113) (pc := 109) d_Md_serve_109 (by decide) ?_
        refine T_istore_n (pc := 113) d_Md_serve_113 rfl (Nat.le_of_ble_eq_true rfl) rfl ?_
        refine T_iload_n (pc := 114) d_Md_serve_114 rfl ?_
        refine T_if_ne (tgt := 126) (pc := 115) d_Md_serve_115 (by decide) (fun q115 => absurd q115 (by decide)) (fun q115 => ?_)
        refine T_aload_n (pc := 118) d_Md_serve_118 rfl ?_
        refine T_iload_n (pc := 119) d_Md_serve_119 rfl ?_
        refine T_top ekp ?_
        refine T_ivV (pc := 120) d_Md_serve_120 sI_Md_195 (c_Md_run M2 (hs.rF F2) v2 hkp) M2.1 rfl rfl ⟨(Nat.le_of_ble_eq_true rfl), (Nat.le_of_ble_eq_true rfl)⟩ ⟨(Nat.le_of_ble_eq_true rfl), (Nat.le_of_ble_eq_true rfl)⟩ (Nat.le_of_ble_eq_true rfl) (fun r3 h3 q3 => ?_)
        obtain ⟨σ3, ν3, α3, M3, O3, rfl, e3, t19, t20, s3, e3a⟩ := q3
        rw [e3a] at M3
        rw [e19]
        have F3 : vF h2 h3 m σ2 σ3 α2 α2 := vF.of O3 s3 aX.rf (I := [19, 20]) (J := []) (by decide) (by decide)
        have hk3 : mKn σ3 α2 kl := hk2.same (s3 21 (by decide)) rfl rfl rfl
        have hn3 : mNe σ3 α2 ms := hn2.same (s3 13 (by decide)) rfl rfl rfl
        rw [e19] at t19
        rw [e20] at t20
        refine T_goto (tgt := 127) (pc := 123) d_Md_serve_123 (by decide) ?_
        refine T_istore (pc := 127) d_Md_serve_127 (Nat.le_of_ble_eq_true rfl) rfl ?_
        refine c_Md_serve_rem M3 hk3 hn3 (fun h' σ' α' k1 k2 k3 k4 k5 k6 => ?_)
        have F9 := vF.of k2 k5 k6 (by decide) (by decide)
        refine T_iload_n (pc := 145) d_Md_serve_145 rfl ?_
        refine T_if_ne (tgt := 153) (pc := 146) d_Md_serve_146 (by decide) (fun q146 => absurd q146 (by decide)) (fun q146 => ?_)
        refine T_iconst (v := 0) (pc := 149) d_Md_serve_149 rfl ?_
        refine T_goto (tgt := 163) (pc := 150) d_Md_serve_150 (by decide) ?_
        refine T_iret (pc := 163) d_Md_serve_163 rfl rfl (Nat.le_refl _) ?_
        exact hQ _ _ ⟨σ', _, α', k1, (F2.v.tr F3).tr F9, rfl, k3, (k5 19 (by decide)).trans t19, (k5 20 (by decide)).trans t20, k4, _, mVa.same v2 (k6 4 (by decide)) (k6 5 (by decide))⟩
    · have hbad : wat l 8 < 0 ∨ 3 < wat l 8 := by
        first
          | exact Or.inl q89
          | exact Or.inr (Int32.not_le.mp q94)
      have eA : ansF wf ns l (wat l 8) (σ 19) (σ 20) = (2, 1, 0, σ 19, σ 20) := if_pos hbad
      unfold msN at hQ
      rw [eA] at hQ
      refine T_iconst (v := 1) (pc := 97) d_Md_serve_97 rfl ?_
      refine T_goto (tgt := 113) (pc := 98) d_Md_serve_98 (by decide) ?_
      refine T_istore_n (pc := 113) d_Md_serve_113 rfl (Nat.le_of_ble_eq_true rfl) rfl ?_
      refine T_iload_n (pc := 114) d_Md_serve_114 rfl ?_
      refine T_if_ne (tgt := 126) (pc := 115) d_Md_serve_115 (by decide) (fun q115 => ?_) (fun q115 => absurd q115 (by decide))
      refine T_iconst (v := 0) (pc := 126) d_Md_serve_126 rfl ?_
      refine T_istore (pc := 127) d_Md_serve_127 (Nat.le_of_ble_eq_true rfl) rfl ?_
      refine c_Md_serve_rem hM hk hn (fun h' σ' α' k1 k2 k3 k4 k5 k6 => ?_)
      have F9 := vF.of k2 k5 k6 (by decide) (by decide)
      refine T_iload_n (pc := 145) d_Md_serve_145 rfl ?_
      refine T_if_ne (tgt := 153) (pc := 146) d_Md_serve_146 (by decide) (fun q146 => ?_) (fun q146 => absurd q146 (by decide))
      refine T_iload_n (pc := 153) d_Md_serve_153 rfl ?_
      refine T_iconst (v := 1) (pc := 154) d_Md_serve_154 rfl ?_
      refine T_icmp_ne (tgt := 162) (pc := 155) d_Md_serve_155 (by decide) (fun q155 => absurd q155 (by decide)) (fun q155 => ?_)
      refine T_iconst (v := 2) (pc := 158) d_Md_serve_158 rfl ?_
      refine T_goto (tgt := 163) (pc := 159) d_Md_serve_159 (by decide) ?_
      refine T_iret (pc := 163) d_Md_serve_163 rfl rfl (Nat.le_refl _) ?_
      exact hQ _ _ ⟨σ', _, α', k1, vF.rf.tr F9, rfl, k3, (k5 19 (by decide)).trans rfl, (k5 20 (by decide)).trans rfl, k4, _, mVa.same hv (k6 4 (by decide)) (k6 5 (by decide))⟩
