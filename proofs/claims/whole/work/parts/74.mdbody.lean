/-! OnceWireModel.readTaggedBody, readWords and readBody. -/
theorem ent_pos {ns : List Sf} {vs vs' : List (List Int32)} {r : List Int32} {k : Nat} (h : ent ns vs r = some (vs', k)) : 1 ≤ k := by
  unfold ent at h
  split at h
  · cases h
  · rename_i key m1 hrv
    have := (rv_le _ _ _ _ _ _ hrv).1
    split at h
    · cases h
    · split at h
      · cases h
      · obtain ⟨z, h1, h2⟩ := Option.map_eq_some_iff.mp h
        cases h2
        omega
def rF (h h' : aH) (m : Nat) (σ σ' : Nat → Int32) (α α' : Nat → Nat → Int32) : Prop := mdO h h' m ∧ sX [11] σ σ' ∧ aX [4, 5] α α' ∧ (∀ q, q < 4 ∨ 4 + 4 ≤ q → α' 4 q = α 4 q) ∧ (∀ q, q < 4 * 4 ∨ 4 * 4 + 16 ≤ q → α' 5 q = α 5 q)
theorem rF.rf {h : aH} {m : Nat} {σ : Nat → Int32} {α : Nat → Nat → Int32} : rF h h m σ σ α α := ⟨mdO.rf, sX.rf, aX.rf, fun _ _ => rfl, fun _ _ => rfl⟩
theorem rF.tr {h h1 h2 : aH} {m : Nat} {σ σ1 σ2 : Nat → Int32} {α α1 α2 : Nat → Nat → Int32} (a : rF h h1 m σ σ1 α α1) (b : rF h1 h2 m σ1 σ2 α1 α2) : rF h h2 m σ σ2 α α2 := ⟨a.1.tr b.1, a.2.1.tr b.2.1, a.2.2.1.tr b.2.2.1, fun q z => (b.2.2.2.1 q z).trans (a.2.2.2.1 q z), fun q z => (b.2.2.2.2 q z).trans (a.2.2.2.2 q z)⟩
def rbQ (h : aH) (m : Nat) (σ : Nat → Int32) (α : Nat → Nat → Int32) (ns : List Sf) (X : Option (List (List Int32))) : aQ := fun r h' => ∃ σ' ν' α', Md h' m σ' ν' α' ∧ rF h h' m σ σ' α α' ∧ match X with | some vs' => r = some (.int 1) ∧ mVa α' 4 ns vs' | none => r = some (.int 0) ∧ ∃ vs', mVa α' 4 ns vs'
theorem rbQ.up {h h0 : aH} {m : Nat} {σ σ0 : Nat → Int32} {α α0 : Nat → Nat → Int32} {ns : List Sf} {X : Option (List (List Int32))} {r : Option Value} {h' : aH} (q : rbQ h m σ α ns X r h') (f : rF h0 h m σ0 σ α0 α) : rbQ h0 m σ0 α0 ns X r h' := by
  obtain ⟨σ', ν', α', M, F, k⟩ := q
  exact ⟨σ', ν', α', M, f.tr F, k⟩
theorem mSc.rF {h h' : aH} {m : Nat} {σ σ' : Nat → Int32} {α α' : Nat → Nat → Int32} {ns : List Sf} (hs : mSc σ α ns) (f : rF h h' m σ σ' α α') : mSc σ' α' ns := hs.same (f.2.1 1 (by decide)) (f.2.2.1 1 (by decide)) (f.2.2.1 2 (by decide)) (f.2.2.1 3 (by decide))
theorem mRe.rF {h h' : aH} {m : Nat} {σ σ' : Nat → Int32} {α α' : Nat → Nat → Int32} {l : List Int32} (hr : mRe σ α l) (f : rF h h' m σ σ' α α') : mRe σ' α' l := hr.same (f.2.1 8 (by decide)) (f.2.2.1 6 (by decide))
set_option maxRecDepth 100000 in
set_option maxHeartbeats 4000000 in
theorem c_Md_readTaggedBody_loop {n m : Nat} {ns : List Sf} {l : List Int32} {Q : aQ} (hby : byt l) (hn : nsN ns) : ∀ (k p : Nat) (h : aH) (σ : Nat → Int32) (ν : Int64) (α : Nat → Nat → Int32) (vs : List (List Int32)), l.length - p ≤ k → p ≤ l.length → Md h m σ ν α → mSc σ α ns → mVa α 4 ns vs → mRe σ α l → σ 11 = nI p → (∀ r h', rbQ h m σ α ns (dtF k ns vs (l.drop p)) r h' → Q r h') → Tri M_Md_readTaggedBody (a_rm 2 0 0) (a_Z 0 0 Q) 0 [(0, .ref m)] [] n h 0 0 := by
  intro k
  induction k with
  | zero =>
    intro p h σ ν α vs hk hpl hM hs hv hr hp hQ
    have hl210 := hr.1
    have hl8 := hr.2.1
    refine T_aload_n (pc := 0) d_Md_readTaggedBody_0 rfl ?_
    refine T_get (pc := 1) d_Md_readTaggedBody_1 sF_Md_134_Md hM.1 rfl ?_
    refine T_aload_n (pc := 4) d_Md_readTaggedBody_4 rfl ?_
    refine T_get (pc := 5) d_Md_readTaggedBody_5 sF_Md_87_Md hM.1 rfl ?_
    refine T_icmp_ge (tgt := 20) (pc := 8) d_Md_readTaggedBody_8 (by decide) (fun q8 => ?_) (fun q8 => absurd q8 (fun z => z (by rw [hp, hl8]; exact nI_le (by omega) (by omega))))
    refine T_iconst (v := 1) (pc := 20) d_Md_readTaggedBody_20 rfl ?_
    refine T_zret (pc := 21) d_Md_readTaggedBody_21 rfl (by decide) rfl (Nat.le_refl _) ?_
    refine hQ _ _ ⟨_, _, _, hM, rF.rf, ?_⟩
    rw [dtF, if_pos (by rw [List.length_drop]; omega)]
    exact ⟨rfl, hv⟩
  | succ k ih =>
    intro p h σ ν α vs hk hpl hM hs hv hr hp hQ
    have hl210 := hr.1
    have hl8 := hr.2.1
    refine T_aload_n (pc := 0) d_Md_readTaggedBody_0 rfl ?_
    refine T_get (pc := 1) d_Md_readTaggedBody_1 sF_Md_134_Md hM.1 rfl ?_
    refine T_aload_n (pc := 4) d_Md_readTaggedBody_4 rfl ?_
    refine T_get (pc := 5) d_Md_readTaggedBody_5 sF_Md_87_Md hM.1 rfl ?_
    refine T_icmp_ge (tgt := 20) (pc := 8) d_Md_readTaggedBody_8 (by decide) (fun q8 => ?_) (fun q8 => ?_)
    · have hz : l.length ≤ p := by
        rw [hp, hl8] at q8
        rcases Nat.lt_or_ge p l.length with z | z
        · exact absurd q8 (nI_ge z (by omega))
        · exact z
      refine T_iconst (v := 1) (pc := 20) d_Md_readTaggedBody_20 rfl ?_
      refine T_zret (pc := 21) d_Md_readTaggedBody_21 rfl (by decide) rfl (Nat.le_refl _) ?_
      refine hQ _ _ ⟨_, _, _, hM, rF.rf, ?_⟩
      rw [dtF, if_pos (by rw [List.length_drop]; omega)]
      exact ⟨rfl, hv⟩
    · refine T_aload_n (pc := 11) d_Md_readTaggedBody_11 rfl ?_
      refine T_ivV (pc := 12) d_Md_readTaggedBody_12 sI_Md_157 (c_Md_readTagged hM hs hv hr hp hpl hby hn) hM.1 rfl rfl ⟨(Nat.le_of_ble_eq_true rfl), (Nat.le_of_ble_eq_true rfl)⟩ ⟨(Nat.le_of_ble_eq_true rfl), (Nat.le_of_ble_eq_true rfl)⟩ (Nat.le_of_ble_eq_true rfl) (fun r1 h1 q1 => ?_)
      obtain ⟨σ1, ν1, α1, M1, O1, s1, a1, x4, x5, k1⟩ := q1
      have F1 : rF h h1 m σ σ1 α α1 := ⟨O1, s1, a1, x4, x5⟩
      have hlt : p < l.length := by
        rw [hp, hl8] at q8
        rcases Nat.lt_or_ge p l.length with z | z
        · exact z
        · exact absurd (nI_le z (by omega)) q8
      have hd : (l.drop p).length ≠ 0 := by rw [List.length_drop]; omega
      rw [dtF, if_neg hd] at hQ
      rcases he : ent ns vs (l.drop p) with _ | ⟨vs', k'⟩
      · rw [he] at k1 hQ
        obtain ⟨rfl, v1⟩ := k1
        refine T_if_ne (tgt := 0) (pc := 15) d_Md_readTaggedBody_15 (by decide) (fun q15 => absurd q15 (by decide)) (fun q15 => ?_)
        refine T_iconst (v := 0) (pc := 18) d_Md_readTaggedBody_18 rfl ?_
        refine T_zret (pc := 19) d_Md_readTaggedBody_19 rfl (by decide) rfl (Nat.le_refl _) ?_
        exact hQ _ _ ⟨_, _, _, M1, F1, rfl, _, v1⟩
      · rw [he] at k1 hQ
        obtain ⟨rfl, v1, e11, hle⟩ := k1
        have hk1 := ent_pos he
        replace hQ : ∀ r h', rbQ h m σ α ns (dtF k ns vs' (l.drop (p + k'))) r h' → Q r h' := fun r h' q => hQ r h' (by rw [← List.drop_drop] at q; exact q)
        refine T_if_ne (tgt := 0) (pc := 15) d_Md_readTaggedBody_15 (by decide) (fun q15 => ?_) (fun q15 => absurd q15 (by decide))
        exact ih (p + k') h1 σ1 ν1 α1 vs' (by omega) hle M1 (hs.rF F1) v1 (hr.rF F1) e11 (fun r h' q => hQ r h' (q.up F1))
set_option maxRecDepth 100000 in
set_option maxHeartbeats 4000000 in
theorem c_Md_readTaggedBody {n m : Nat} {h : aH} {σ : Nat → Int32} {ν : Int64} {α : Nat → Nat → Int32} {ns : List Sf} {vs : List (List Int32)} {l : List Int32} {p : Nat} (hM : Md h m σ ν α) (hs : mSc σ α ns) (hv : mVa α 4 ns vs) (hr : mRe σ α l) (hp : σ 11 = nI p) (hq : p ≤ l.length) (hby : byt l) (hn : nsN ns) : Con M_Md_readTaggedBody 2 0 0 n [.ref m] h (rbQ h m σ α ns (dtF (l.length - p) ns vs (l.drop p))) := by
  refine Con.of rfl (Nat.le_of_ble_eq_true rfl) ?_
  exact c_Md_readTaggedBody_loop hby hn (l.length - p) p h σ ν α vs (Nat.le_refl _) hq hM hs hv hr hp (fun _ _ q => q)
set_option maxRecDepth 100000 in
set_option maxHeartbeats 4000000 in
theorem c_Md_readWords_in {n m i N : Nat} {ns : List Sf} {t : Sf} {l : List Int32} {ν : Int64} {Q : aQ} (ht : ns[i]? = some t) (hN : N ≤ 4) : ∀ (k j p : Nat) (h : aH) (σ : Nat → Int32) (α : Nat → Nat → Int32) (w : List Int32) (vs : List (List Int32)), j + k = N → p ≤ l.length → vs[i]? = some w → (t.2.2 = true → w.length + k ≤ 4) → Md h m σ ν α → mSc σ α ns → mVa α 4 ns vs → mRe σ α l → σ 11 = nI p → (∀ h' σ' α' w' p', dwI t k w (l.drop p) = some (w', l.drop p') → p' ≤ l.length → Md h' m σ' ν α' → rF h h' m σ σ' α α' → σ' 11 = nI p' → mVa α' 4 ns (vs.set i w') → Tri M_Md_readWords (a_rm 1 0 0) (a_Z 0 0 Q) 157 [(3, .int (nI N)), (2, .int (nI N)), (1, .int (nI i)), (0, .ref m)] [] n h' 0 0) → (∀ h' σ' α', dwI t k w (l.drop p) = none → Md h' m σ' ν α' → rF h h' m σ σ' α α' → (∃ vs', mVa α' 4 ns vs') → Q (some (.int 0)) h') → Tri M_Md_readWords (a_rm 1 0 0) (a_Z 0 0 Q) 70 [(3, .int (nI j)), (2, .int (nI N)), (1, .int (nI i)), (0, .ref m)] [] n h 0 0 := by
  intro k
  induction k with
  | zero =>
    intro j p h σ α w vs hjk hpl hw hw4 hM hs hv hr hp hK1 hK0
    have hj : j = N := by omega
    subst hj
    refine T_iload_n (pc := 70) d_Md_readWords_70 rfl ?_
    refine T_iload_n (pc := 71) d_Md_readWords_71 rfl ?_
    refine T_icmp_ge (tgt := 157) (pc := 72) d_Md_readWords_72 (by decide) (fun q72 => ?_) (fun q72 => absurd q72 (fun z => z (Int32.le_refl _)))
    exact hK1 h σ α w p rfl hpl hM rF.rf hp (by
      obtain ⟨hi, e⟩ := List.getElem?_eq_some_iff.mp hw
      rw [← e, List.set_getElem_self]
      exact hv)
  | succ k ih =>
    intro j p h σ α w vs hjk hpl hw hw4 hM hs hv hr hp hK1 hK0
    have hl210 := hr.1
    have hl8 := hr.2.1
    have hs4 := hs.1
    have hi : i < ns.length := (List.getElem?_eq_some_iff.mp ht).1
    obtain ⟨b1, b2, b3, t1, t30, t3⟩ := hs.2.2 i t ht
    have hld : (l.drop p).length = l.length - p := List.length_drop
    have ewat : wat (l.drop p) 0 = wat l p := wat_drop l p
    rw [dwI, hld, ewat] at hK1 hK0
    refine T_iload_n (pc := 70) d_Md_readWords_70 rfl ?_
    refine T_iload_n (pc := 71) d_Md_readWords_71 rfl ?_
    refine T_icmp_ge (tgt := 157) (pc := 72) d_Md_readWords_72 (by decide) (fun q72 => absurd q72 (nI_ge (by omega) (by omega))) (fun q72 => ?_)
    refine T_aload_n (pc := 75) d_Md_readWords_75 rfl ?_
    refine T_get (pc := 76) d_Md_readWords_76 sF_Md_87_Md hM.1 rfl ?_
    refine T_aload_n (pc := 79) d_Md_readWords_79 rfl ?_
    refine T_get (pc := 80) d_Md_readWords_80 sF_Md_134_Md hM.1 rfl ?_
    refine T_isub (pc := 83) d_Md_readWords_83 ?_
    refine T_iconst (v := 4) (pc := 84) d_Md_readWords_84 rfl ?_
    refine T_icmp_ge (tgt := 90) (pc := 85) d_Md_readWords_85 (by decide) (fun q85 => ?_) (fun q85 => ?_)
    · rw [hl8, hp] at q85
      have h4 : p + 4 ≤ l.length := (nle_sub (a := l.length) (b := p) (c := 4) (by omega) (by omega) (by decide)).mp q85
      rw [if_neg (by omega)] at hK1 hK0
      refine T_aload_n (pc := 90) d_Md_readWords_90 rfl ?_
      refine T_aload_n (pc := 91) d_Md_readWords_91 rfl ?_
      refine T_get (pc := 92) d_Md_readWords_92 sF_Md_134_Md hM.1 rfl ?_
      refine T_top hp ?_
      refine T_ivV (pc := 95) d_Md_readWords_95 sI_Md_160 (c_Md_word hM hr h4) hM.1 rfl rfl ⟨(Nat.le_of_ble_eq_true rfl), (Nat.le_of_ble_eq_true rfl)⟩ ⟨(Nat.le_of_ble_eq_true rfl), (Nat.le_of_ble_eq_true rfl)⟩ (Nat.le_of_ble_eq_true rfl) (fun r1 h1 q1 => ?_)
      obtain ⟨rfl, rfl⟩ := q1
      refine T_istore (pc := 98) d_Md_readWords_98 (Nat.le_of_ble_eq_true rfl) rfl ?_
      refine T_aload_n (pc := 100) d_Md_readWords_100 rfl ?_
      refine T_aload_n (pc := 101) d_Md_readWords_101 rfl ?_
      refine T_get (pc := 102) d_Md_readWords_102 sF_Md_134_Md hM.1 rfl ?_
      refine T_iconst (v := 4) (pc := 105) d_Md_readWords_105 rfl ?_
      refine T_iadd (pc := 106) d_Md_readWords_106 ?_
      refine T_top (show σ 11 + 4 = nI (p + 4) by rw [hp]; exact nI_add p 4) ?_
      refine T_put (pc := 107) d_Md_readWords_107 sF_Md_134_Md hM.1 (Nat.le_of_ble_eq_true rfl) (a_fit_i _) (T_up (fun h107x1 g107x1 o107x1 => ?_))
      have M107x1 := hM.put 11 _ g107x1 o107x1 rfl
      have O107x1 := mdO.o (j := 0) mdO.rf o107x1 (by decide)
      refine T_aload_n (pc := 110) d_Md_readWords_110 rfl ?_
      refine T_get (pc := 111) d_Md_readWords_111 sF_Md_13_Md M107x1.1 rfl ?_
      refine T_iload_n (pc := 114) d_Md_readWords_114 rfl ?_
      refine T_iald (N := 4) (pc := 115) d_Md_readWords_115 (M107x1.arr 2) (vp_in_nI (by omega) (by decide)) ?_
      refine T_top (show α 2 (nI i).toNatClampNeg = nI t.2.1 by rw [nI_clamp (by omega)]; exact b2) ?_
      refine T_iconst (v := 3) (pc := 116) d_Md_readWords_116 rfl ?_
      refine T_icmp_ne (tgt := 133) (pc := 117) d_Md_readWords_117 (by decide) (fun q117 => ?_) (fun q117 => ?_)
      · have hok : ¬ (t.2.1 = 3 ∧ wat l p ≠ 0 ∧ wat l p ≠ 1) := by
          rintro ⟨z1, z2, z3⟩
          first
            | exact q117 (by rw [z1]; rfl)
            | exact z2 q122
            | exact z3 q128
        rw [if_neg hok] at hK1 hK0
        have hst : stv ns vs i (wat l p) = some (vs.set i (if t.2.2 then w ++ [wat l p] else [wat l p])) := by
          unfold stv
          rw [ht, hw]
          cases hb : t.2.2 with
          | false => simp [hb]
          | true =>
            have := hw4 hb
            simp only [hb, if_true]
            rw [if_pos (by omega)]
        refine T_aload_n (pc := 133) d_Md_readWords_133 rfl ?_
        refine T_iconst (v := 4) (pc := 134) d_Md_readWords_134 rfl ?_
        refine T_iload_n (pc := 135) d_Md_readWords_135 rfl ?_
        refine T_iadd (pc := 136) d_Md_readWords_136 ?_
        refine T_top (show (4 : Int32) + nI i = nI (4 + i) from nI_add 4 i) ?_
        refine T_iload (pc := 137) d_Md_readWords_137 rfl ?_
        refine T_ivV (pc := 139) d_Md_readWords_139 sI_Md_83 (c_Md_give (x := wat l p) M107x1 (hs.same (pk_un (by decide)) rfl rfl rfl) (Or.inr rfl) hv ht hw) M107x1.1 rfl rfl ⟨(Nat.le_of_ble_eq_true rfl), (Nat.le_of_ble_eq_true rfl)⟩ ⟨(Nat.le_of_ble_eq_true rfl), (Nat.le_of_ble_eq_true rfl)⟩ (Nat.le_of_ble_eq_true rfl) (fun r2 h2 q2 => ?_)
        obtain ⟨σ2, ν2, α2, M2, O2, e5, e6, a2, x4, x5, k2⟩ := q2
        rw [e5, e6] at M2
        rw [hst] at k2
        obtain ⟨rfl, v2⟩ := k2
        have F2 : rF h1 h2 m σ (upd σ 11 (nI (p + 4))) α α2 := ⟨O107x1.tr O2, sX.rf.up (by decide), a2, x4, x5⟩
        refine T_istore (pc := 142) d_Md_readWords_142 (Nat.le_of_ble_eq_true rfl) rfl ?_
        refine T_iload (pc := 144) d_Md_readWords_144 rfl ?_
        refine T_if_ne (tgt := 151) (pc := 146) d_Md_readWords_146 (by decide) (fun q146 => ?_) (fun q146 => absurd q146 (by decide))
        refine T_iinc (pc := 151) d_Md_readWords_151 rfl (nI_1 j) (Nat.le_of_ble_eq_true rfl) rfl ?_
        refine T_goto (tgt := 70) (pc := 154) d_Md_readWords_154 (by decide) ?_
        refine T_loc [0, 3, 4, 5] rfl ?_
        rw [List.drop_drop] at hK1 hK0
        have hi2 : i < vs.length := (List.getElem?_eq_some_iff.mp hw).1
        exact ih (j + 1) (p + 4) h2 _ α2 _ _ (by omega) h4 (List.getElem?_set_self hi2) (fun hb => by have := hw4 hb; rw [if_pos hb]; simp; omega) M2 (hs.rF F2) v2 (hr.rF F2) pk_us (fun h' σ' α' w' p' k1 k2 k3 k4 k5 k6 => hK1 h' σ' α' w' p' k1 k2 k3 (F2.tr k4) k5 (by rw [List.set_set] at k6; exact k6)) (fun h' σ' α' k1 k2 k3 k4 => hK0 h' σ' α' k1 k2 (F2.tr k3) k4)
      · refine T_iload (pc := 120) d_Md_readWords_120 rfl ?_
        refine T_if_eq (tgt := 133) (pc := 122) d_Md_readWords_122 (by decide) (fun q122 => ?_) (fun q122 => ?_)
        · have hok : ¬ (t.2.1 = 3 ∧ wat l p ≠ 0 ∧ wat l p ≠ 1) := by
            rintro ⟨z1, z2, z3⟩
            first
              | exact q117 (by rw [z1]; rfl)
              | exact z2 q122
              | exact z3 q128
          rw [if_neg hok] at hK1 hK0
          have hst : stv ns vs i (wat l p) = some (vs.set i (if t.2.2 then w ++ [wat l p] else [wat l p])) := by
            unfold stv
            rw [ht, hw]
            cases hb : t.2.2 with
            | false => simp [hb]
            | true =>
              have := hw4 hb
              simp only [hb, if_true]
              rw [if_pos (by omega)]
          refine T_aload_n (pc := 133) d_Md_readWords_133 rfl ?_
          refine T_iconst (v := 4) (pc := 134) d_Md_readWords_134 rfl ?_
          refine T_iload_n (pc := 135) d_Md_readWords_135 rfl ?_
          refine T_iadd (pc := 136) d_Md_readWords_136 ?_
          refine T_top (show (4 : Int32) + nI i = nI (4 + i) from nI_add 4 i) ?_
          refine T_iload (pc := 137) d_Md_readWords_137 rfl ?_
          refine T_ivV (pc := 139) d_Md_readWords_139 sI_Md_83 (c_Md_give (x := wat l p) M107x1 (hs.same (pk_un (by decide)) rfl rfl rfl) (Or.inr rfl) hv ht hw) M107x1.1 rfl rfl ⟨(Nat.le_of_ble_eq_true rfl), (Nat.le_of_ble_eq_true rfl)⟩ ⟨(Nat.le_of_ble_eq_true rfl), (Nat.le_of_ble_eq_true rfl)⟩ (Nat.le_of_ble_eq_true rfl) (fun r2 h2 q2 => ?_)
          obtain ⟨σ2, ν2, α2, M2, O2, e5, e6, a2, x4, x5, k2⟩ := q2
          rw [e5, e6] at M2
          rw [hst] at k2
          obtain ⟨rfl, v2⟩ := k2
          have F2 : rF h1 h2 m σ (upd σ 11 (nI (p + 4))) α α2 := ⟨O107x1.tr O2, sX.rf.up (by decide), a2, x4, x5⟩
          refine T_istore (pc := 142) d_Md_readWords_142 (Nat.le_of_ble_eq_true rfl) rfl ?_
          refine T_iload (pc := 144) d_Md_readWords_144 rfl ?_
          refine T_if_ne (tgt := 151) (pc := 146) d_Md_readWords_146 (by decide) (fun q146 => ?_) (fun q146 => absurd q146 (by decide))
          refine T_iinc (pc := 151) d_Md_readWords_151 rfl (nI_1 j) (Nat.le_of_ble_eq_true rfl) rfl ?_
          refine T_goto (tgt := 70) (pc := 154) d_Md_readWords_154 (by decide) ?_
          refine T_loc [0, 3, 4, 5] rfl ?_
          rw [List.drop_drop] at hK1 hK0
          have hi2 : i < vs.length := (List.getElem?_eq_some_iff.mp hw).1
          exact ih (j + 1) (p + 4) h2 _ α2 _ _ (by omega) h4 (List.getElem?_set_self hi2) (fun hb => by have := hw4 hb; rw [if_pos hb]; simp; omega) M2 (hs.rF F2) v2 (hr.rF F2) pk_us (fun h' σ' α' w' p' k1 k2 k3 k4 k5 k6 => hK1 h' σ' α' w' p' k1 k2 k3 (F2.tr k4) k5 (by rw [List.set_set] at k6; exact k6)) (fun h' σ' α' k1 k2 k3 k4 => hK0 h' σ' α' k1 k2 (F2.tr k3) k4)
        · refine T_iload (pc := 125) d_Md_readWords_125 rfl ?_
          refine T_iconst (v := 1) (pc := 127) d_Md_readWords_127 rfl ?_
          refine T_icmp_eq (tgt := 133) (pc := 128) d_Md_readWords_128 (by decide) (fun q128 => ?_) (fun q128 => ?_)
          · have hok : ¬ (t.2.1 = 3 ∧ wat l p ≠ 0 ∧ wat l p ≠ 1) := by
              rintro ⟨z1, z2, z3⟩
              first
                | exact q117 (by rw [z1]; rfl)
                | exact z2 q122
                | exact z3 q128
            rw [if_neg hok] at hK1 hK0
            have hst : stv ns vs i (wat l p) = some (vs.set i (if t.2.2 then w ++ [wat l p] else [wat l p])) := by
              unfold stv
              rw [ht, hw]
              cases hb : t.2.2 with
              | false => simp [hb]
              | true =>
                have := hw4 hb
                simp only [hb, if_true]
                rw [if_pos (by omega)]
            refine T_aload_n (pc := 133) d_Md_readWords_133 rfl ?_
            refine T_iconst (v := 4) (pc := 134) d_Md_readWords_134 rfl ?_
            refine T_iload_n (pc := 135) d_Md_readWords_135 rfl ?_
            refine T_iadd (pc := 136) d_Md_readWords_136 ?_
            refine T_top (show (4 : Int32) + nI i = nI (4 + i) from nI_add 4 i) ?_
            refine T_iload (pc := 137) d_Md_readWords_137 rfl ?_
            refine T_ivV (pc := 139) d_Md_readWords_139 sI_Md_83 (c_Md_give (x := wat l p) M107x1 (hs.same (pk_un (by decide)) rfl rfl rfl) (Or.inr rfl) hv ht hw) M107x1.1 rfl rfl ⟨(Nat.le_of_ble_eq_true rfl), (Nat.le_of_ble_eq_true rfl)⟩ ⟨(Nat.le_of_ble_eq_true rfl), (Nat.le_of_ble_eq_true rfl)⟩ (Nat.le_of_ble_eq_true rfl) (fun r2 h2 q2 => ?_)
            obtain ⟨σ2, ν2, α2, M2, O2, e5, e6, a2, x4, x5, k2⟩ := q2
            rw [e5, e6] at M2
            rw [hst] at k2
            obtain ⟨rfl, v2⟩ := k2
            have F2 : rF h1 h2 m σ (upd σ 11 (nI (p + 4))) α α2 := ⟨O107x1.tr O2, sX.rf.up (by decide), a2, x4, x5⟩
            refine T_istore (pc := 142) d_Md_readWords_142 (Nat.le_of_ble_eq_true rfl) rfl ?_
            refine T_iload (pc := 144) d_Md_readWords_144 rfl ?_
            refine T_if_ne (tgt := 151) (pc := 146) d_Md_readWords_146 (by decide) (fun q146 => ?_) (fun q146 => absurd q146 (by decide))
            refine T_iinc (pc := 151) d_Md_readWords_151 rfl (nI_1 j) (Nat.le_of_ble_eq_true rfl) rfl ?_
            refine T_goto (tgt := 70) (pc := 154) d_Md_readWords_154 (by decide) ?_
            refine T_loc [0, 3, 4, 5] rfl ?_
            rw [List.drop_drop] at hK1 hK0
            have hi2 : i < vs.length := (List.getElem?_eq_some_iff.mp hw).1
            exact ih (j + 1) (p + 4) h2 _ α2 _ _ (by omega) h4 (List.getElem?_set_self hi2) (fun hb => by have := hw4 hb; rw [if_pos hb]; simp; omega) M2 (hs.rF F2) v2 (hr.rF F2) pk_us (fun h' σ' α' w' p' k1 k2 k3 k4 k5 k6 => hK1 h' σ' α' w' p' k1 k2 k3 (F2.tr k4) k5 (by rw [List.set_set] at k6; exact k6)) (fun h' σ' α' k1 k2 k3 k4 => hK0 h' σ' α' k1 k2 (F2.tr k3) k4)
          · have hbad : t.2.1 = 3 ∧ wat l p ≠ 0 ∧ wat l p ≠ 1 := ⟨(nI_eq (a := t.2.1) (b := 3) (by omega) (by decide)).mp q117, q122, q128⟩
            rw [if_pos hbad] at hK0
            refine T_iconst (v := 0) (pc := 131) d_Md_readWords_131 rfl ?_
            refine T_zret (pc := 132) d_Md_readWords_132 rfl (by decide) rfl (Nat.le_refl _) ?_
            exact hK0 _ _ α rfl M107x1 ⟨O107x1, sX.rf.up (by decide), aX.rf, fun _ _ => rfl, fun _ _ => rfl⟩ ⟨vs, hv⟩
    · rw [hl8, hp] at q85
      have hlt : l.length - p < 4 := by
        have := mt (nle_sub (a := l.length) (b := p) (c := 4) (by omega) (by omega) (by decide)).mpr q85
        omega
      rw [if_pos hlt] at hK0
      refine T_iconst (v := 0) (pc := 88) d_Md_readWords_88 rfl ?_
      refine T_zret (pc := 89) d_Md_readWords_89 rfl (by decide) rfl (Nat.le_refl _) ?_
      exact hK0 h σ α rfl hM rF.rf ⟨vs, hv⟩
def dwX (dn : List (List Int32)) (o : Option (List (List Int32) × List Int32)) : Option (List (List Int32)) := match o with
  | some (us, []) => some (dn ++ us)
  | _ => none
theorem dwX_ap (dn : List (List Int32)) (w : List Int32) (o : Option (List (List Int32) × List Int32)) : dwX dn (o.map (fun z => (w :: z.1, z.2))) = dwX (dn ++ [w]) o := by
  cases o with
  | none => rfl
  | some z =>
    obtain ⟨us, r⟩ := z
    cases r with
    | nil => simp [dwX]
    | cons a b => rfl
theorem dwX_0 (ns : List Sf) (r : List Int32) : dwX [] (dwF ns r) = decW ns r := by
  unfold decW dwX
  split <;> simp_all
set_option maxRecDepth 100000 in
set_option maxHeartbeats 4000000 in
theorem c_Md_readWords_out {n m : Nat} {ns : List Sf} {l : List Int32} {ν : Int64} {Q : aQ} : ∀ (ts : List Sf) (i p : Nat) (h : aH) (σ : Nat → Int32) (α : Nat → Nat → Int32) (dn : List (List Int32)), ns.drop i = ts → dn.length = i → i ≤ ns.length → p ≤ l.length → Md h m σ ν α → mSc σ α ns → mVa α 4 ns (dn ++ vnil ts) → mRe σ α l → σ 11 = nI p → (∀ r h', rbQ h m σ α ns (dwX dn (dwF ts (l.drop p))) r h' → Q r h') → Tri M_Md_readWords (a_rm 1 0 0) (a_Z 0 0 Q) 2 [(1, .int (nI i)), (0, .ref m)] [] n h 0 0 := by
  intro ts
  induction ts with
  | nil =>
    intro i p h σ α dn hts hdn hi hpl hM hs hv hr hp hQ
    have hi2 : i = ns.length := Nat.le_antisymm hi (List.drop_eq_nil_iff.mp hts)
    have hl210 := hr.1
    have hl8 := hr.2.1
    have hs1 := hs.2.1
    refine T_iload_n (pc := 2) d_Md_readWords_2 rfl ?_
    refine T_aload_n (pc := 3) d_Md_readWords_3 rfl ?_
    refine T_get (pc := 4) d_Md_readWords_4 sF_Md_75_Md hM.1 rfl ?_
    refine T_icmp_ge (tgt := 163) (pc := 7) d_Md_readWords_7 (by decide) (fun q7 => ?_) (fun q7 => absurd q7 (fun z => z (by rw [hs1, hi2]; exact Int32.le_refl _)))
    refine T_aload_n (pc := 163) d_Md_readWords_163 rfl ?_
    refine T_get (pc := 164) d_Md_readWords_164 sF_Md_134_Md hM.1 rfl ?_
    refine T_aload_n (pc := 167) d_Md_readWords_167 rfl ?_
    refine T_get (pc := 168) d_Md_readWords_168 sF_Md_87_Md hM.1 rfl ?_
    refine T_icmp_ne (tgt := 178) (pc := 171) d_Md_readWords_171 (by decide) (fun q171 => ?_) (fun q171 => ?_)
    · refine T_iconst (v := 0) (pc := 178) d_Md_readWords_178 rfl ?_
      refine T_zret (pc := 179) d_Md_readWords_179 rfl (by decide) rfl (Nat.le_refl _) ?_
      refine hQ _ _ ⟨_, _, _, hM, rF.rf, ?_⟩
      rw [hp, hl8] at q171
      rw [vnil, List.map_nil, List.append_nil] at hv
      first
        | (have hz : p = l.length := (nI_eq (by omega) (by omega)).mp q171
           rw [hz, List.drop_length]
           show _ = _ ∧ mVa α 4 ns (dn ++ [])
           rw [List.append_nil]
           exact ⟨rfl, hv⟩)
        | (have hz : p ≠ l.length := fun z => q171 (by rw [z])
           have hd : l.drop p = l[p]'(by omega) :: l.drop (p + 1) := List.drop_eq_getElem_cons (by omega)
           rw [hd]
           exact ⟨rfl, dn, hv⟩)
    · refine T_iconst (v := 1) (pc := 174) d_Md_readWords_174 rfl ?_
      refine T_goto (tgt := 179) (pc := 175) d_Md_readWords_175 (by decide) ?_
      refine T_zret (pc := 179) d_Md_readWords_179 rfl (by decide) rfl (Nat.le_refl _) ?_
      refine hQ _ _ ⟨_, _, _, hM, rF.rf, ?_⟩
      rw [hp, hl8] at q171
      rw [vnil, List.map_nil, List.append_nil] at hv
      first
        | (have hz : p = l.length := (nI_eq (by omega) (by omega)).mp q171
           rw [hz, List.drop_length]
           show _ = _ ∧ mVa α 4 ns (dn ++ [])
           rw [List.append_nil]
           exact ⟨rfl, hv⟩)
        | (have hz : p ≠ l.length := fun z => q171 (by rw [z])
           have hd : l.drop p = l[p]'(by omega) :: l.drop (p + 1) := List.drop_eq_getElem_cons (by omega)
           rw [hd]
           exact ⟨rfl, dn, hv⟩)
  | cons t ts ih =>
    intro i p h σ α dn hts hdn hi hpl hM hs hv hr hp hQ
    have hl210 := hr.1
    have hl8 := hr.2.1
    have hs1 := hs.2.1
    have hs4 := hs.1
    have hi2 : i < ns.length := by
      have := congrArg List.length hts
      simp at this
      omega
    have ht : ns[i]? = some t := by
      have := congrArg (fun l => l[0]?) hts
      simpa using this
    have hts2 : ns.drop (i + 1) = ts := by
      rw [← List.drop_drop, hts]
      rfl
    obtain ⟨b1, b2, b3, t1, t30, t3⟩ := hs.2.2 i t ht
    have hld : (l.drop p).length = l.length - p := List.length_drop
    have ewat : wat (l.drop p) 0 = wat l p := wat_drop l p
    rw [vnil_cons] at hv
    rw [dwF, hld, ewat] at hQ
    have hwi : (dn ++ ((if t.2.2 then [] else [0]) :: vnil ts))[i]? = some (if t.2.2 then [] else [0]) := by rw [← hdn, List.getElem?_append_right (Nat.le_refl _), Nat.sub_self]; rfl
    have hset : ∀ w', (dn ++ ((if t.2.2 then [] else [0]) :: vnil ts)).set i w' = (dn ++ [w']) ++ vnil ts := fun w' => by rw [← hdn, List.set_append_right _ _ (Nat.le_refl _), Nat.sub_self, List.set_cons_zero, List.append_assoc]; rfl
    refine T_iload_n (pc := 2) d_Md_readWords_2 rfl ?_
    refine T_aload_n (pc := 3) d_Md_readWords_3 rfl ?_
    refine T_get (pc := 4) d_Md_readWords_4 sF_Md_75_Md hM.1 rfl ?_
    refine T_icmp_ge (tgt := 163) (pc := 7) d_Md_readWords_7 (by decide) (fun q7 => absurd q7 (by rw [hs1]; exact nI_ge hi2 (by omega))) (fun q7 => ?_)
    refine T_iconst (v := 1) (pc := 10) d_Md_readWords_10 rfl ?_
    refine T_istore_n (pc := 11) d_Md_readWords_11 rfl (Nat.le_of_ble_eq_true rfl) rfl ?_
    refine T_aload_n (pc := 12) d_Md_readWords_12 rfl ?_
    refine T_get (pc := 13) d_Md_readWords_13 sF_Md_16_Md hM.1 rfl ?_
    refine T_iload_n (pc := 16) d_Md_readWords_16 rfl ?_
    refine T_zald (N := 4) (pc := 17) d_Md_readWords_17 (hM.arr 3) (vp_in_nI (by omega) (by decide)) ?_
    cases hbt : t.2.2 with
    | false =>
      rw [hbt] at b3 hQ
      have hb3 : α 3 (nI i).toNatClampNeg = 0 := by rw [nI_clamp (by omega)]; exact b3
      refine T_top hb3 ?_
      refine T_if_eq (tgt := 57) (pc := 18) d_Md_readWords_18 (by decide) (fun q18 => ?_) (fun q18 => absurd q18 (by decide))
      refine T_iload_n (pc := 57) d_Md_readWords_57 rfl ?_
      refine T_if_lt (tgt := 66) (pc := 58) d_Md_readWords_58 (by decide) (fun q58 => absurd q58 (by decide)) (fun q58 => ?_)
      refine T_iload_n (pc := 61) d_Md_readWords_61 rfl ?_
      refine T_iconst (v := 4) (pc := 62) d_Md_readWords_62 rfl ?_
      refine T_icmp_le (tgt := 68) (pc := 63) d_Md_readWords_63 (by decide) (fun q63 => ?_) (fun q63 => absurd q63 (by decide))
      refine T_iconst (v := 0) (pc := 68) d_Md_readWords_68 rfl ?_
      refine T_istore_n (pc := 69) d_Md_readWords_69 rfl (Nat.le_of_ble_eq_true rfl) rfl ?_
      simp only [Bool.false_eq_true, if_false] at hQ
      refine c_Md_readWords_in (N := 1) ht (by decide) 1 0 (p) h σ α _ _ (by omega) (by omega) hwi (fun hb => by rw [hbt]; simp) hM hs hv hr hp (fun h' σ' α' w' p' k1 k2 k3 k4 k5 k6 => ?_) (fun h' σ' α' k1 k2 k3 k4 => ?_)
      · rw [hbt] at k1
        simp only [Bool.false_eq_true, if_false, if_true] at k1
        refine T_iinc (pc := 157) d_Md_readWords_157 rfl (nI_1 i) (Nat.le_of_ble_eq_true rfl) rfl ?_
        refine T_goto (tgt := 2) (pc := 160) d_Md_readWords_160 (by decide) ?_
        refine T_loc [0, 3] rfl ?_
        rw [hset] at k6
        have F9 := rF.tr rF.rf k4
        rw [k1] at hQ
        refine ih (i + 1) p' h' σ' α' (dn ++ [w']) hts2 (by simp [hdn]) hi2 k2 k3 (hs.rF F9) k6 (hr.rF F9) k5 (fun r h2 q => hQ r h2 ?_)
        have q9 := q.up F9
        rw [← dwX_ap] at q9
        exact q9
      · rw [hbt] at k1
        simp only [Bool.false_eq_true, if_false, if_true] at k1
        rw [k1] at hQ
        exact hQ _ _ ⟨_, _, _, k2, rF.tr rF.rf k3, rfl, k4⟩
    | true =>
      rw [hbt, if_pos rfl] at hQ
      rw [hbt] at b3
      have hb3 : α 3 (nI i).toNatClampNeg = 1 := by rw [nI_clamp (by omega)]; exact b3
      refine T_top hb3 ?_
      refine T_if_eq (tgt := 57) (pc := 18) d_Md_readWords_18 (by decide) (fun q18 => absurd q18 (by decide)) (fun q18 => ?_)
      refine T_aload_n (pc := 21) d_Md_readWords_21 rfl ?_
      refine T_get (pc := 22) d_Md_readWords_22 sF_Md_87_Md hM.1 rfl ?_
      refine T_aload_n (pc := 25) d_Md_readWords_25 rfl ?_
      refine T_get (pc := 26) d_Md_readWords_26 sF_Md_134_Md hM.1 rfl ?_
      refine T_isub (pc := 29) d_Md_readWords_29 ?_
      refine T_iconst (v := 4) (pc := 30) d_Md_readWords_30 rfl ?_
      refine T_icmp_ge (tgt := 38) (pc := 31) d_Md_readWords_31 (by decide) (fun q31 => ?_) (fun q31 => ?_)
      · rw [hl8, hp] at q31
        have h4 : p + 4 ≤ l.length := (nle_sub (a := l.length) (b := p) (c := 4) (by omega) (by omega) (by decide)).mp q31
        rw [if_neg (by omega)] at hQ
        refine T_aload_n (pc := 38) d_Md_readWords_38 rfl ?_
        refine T_aload_n (pc := 39) d_Md_readWords_39 rfl ?_
        refine T_get (pc := 40) d_Md_readWords_40 sF_Md_134_Md hM.1 rfl ?_
        refine T_top hp ?_
        refine T_ivV (pc := 43) d_Md_readWords_43 sI_Md_160 (c_Md_word hM hr h4) hM.1 rfl rfl ⟨(Nat.le_of_ble_eq_true rfl), (Nat.le_of_ble_eq_true rfl)⟩ ⟨(Nat.le_of_ble_eq_true rfl), (Nat.le_of_ble_eq_true rfl)⟩ (Nat.le_of_ble_eq_true rfl) (fun r1 h1 q1 => ?_)
        obtain ⟨rfl, rfl⟩ := q1
        refine T_istore_n (pc := 46) d_Md_readWords_46 rfl (Nat.le_of_ble_eq_true rfl) rfl ?_
        refine T_aload_n (pc := 47) d_Md_readWords_47 rfl ?_
        refine T_aload_n (pc := 48) d_Md_readWords_48 rfl ?_
        refine T_get (pc := 49) d_Md_readWords_49 sF_Md_134_Md hM.1 rfl ?_
        refine T_iconst (v := 4) (pc := 52) d_Md_readWords_52 rfl ?_
        refine T_iadd (pc := 53) d_Md_readWords_53 ?_
        refine T_top (show σ 11 + 4 = nI (p + 4) by rw [hp]; exact nI_add p 4) ?_
        refine T_put (pc := 54) d_Md_readWords_54 sF_Md_134_Md hM.1 (Nat.le_of_ble_eq_true rfl) (a_fit_i _) (T_up (fun h54x1 g54x1 o54x1 => ?_))
        have M54x1 := hM.put 11 _ g54x1 o54x1 rfl
        have O54x1 := mdO.o (j := 0) mdO.rf o54x1 (by decide)
        refine T_iload_n (pc := 57) d_Md_readWords_57 rfl ?_
        refine T_if_lt (tgt := 66) (pc := 58) d_Md_readWords_58 (by decide) (fun q58 => ?_) (fun q58 => ?_)
        · have hbad : wat l p < 0 ∨ 4 < wat l p := by
            first
              | exact Or.inl q58
              | exact Or.inr (Int32.not_le.mp q63)
          rw [if_pos hbad] at hQ
          refine T_iconst (v := 0) (pc := 66) d_Md_readWords_66 rfl ?_
          refine T_zret (pc := 67) d_Md_readWords_67 rfl (by decide) rfl (Nat.le_refl _) ?_
          exact hQ _ _ ⟨_, _, _, M54x1, ⟨O54x1, sX.rf.up (by decide), aX.rf, fun _ _ => rfl, fun _ _ => rfl⟩, rfl, _, hv⟩
        · refine T_iload_n (pc := 61) d_Md_readWords_61 rfl ?_
          refine T_iconst (v := 4) (pc := 62) d_Md_readWords_62 rfl ?_
          refine T_icmp_le (tgt := 68) (pc := 63) d_Md_readWords_63 (by decide) (fun q63 => ?_) (fun q63 => ?_)
          · obtain ⟨N, hN4, eN⟩ : ∃ N : Nat, N ≤ 4 ∧ wat l p = nI N := nI_of2 (M := 4) (by decide) q58 q63
            rw [if_neg (by rintro (z | z); exact q58 z; exact absurd q63 (Int32.not_le.mpr z)), eN, nI_clamp (by omega)] at hQ
            rw [eN]
            refine T_iconst (v := 0) (pc := 68) d_Md_readWords_68 rfl ?_
            refine T_istore_n (pc := 69) d_Md_readWords_69 rfl (Nat.le_of_ble_eq_true rfl) rfl ?_
            have F8 : rF _ _ m σ (upd σ 11 (nI (p + 4))) α α := ⟨O54x1, sX.rf.up (by decide), aX.rf, fun _ _ => rfl, fun _ _ => rfl⟩
            rw [List.drop_drop] at hQ
            refine c_Md_readWords_in (N := N) ht hN4 N 0 (p + 4) _ _ α _ _ (by omega) (by omega) hwi (fun hb => by rw [hbt]; simp; omega) M54x1 (hs.rF F8) hv (hr.rF F8) pk_us (fun h' σ' α' w' p' k1 k2 k3 k4 k5 k6 => ?_) (fun h' σ' α' k1 k2 k3 k4 => ?_)
            · rw [hbt] at k1
              simp only [Bool.false_eq_true, if_false, if_true] at k1
              refine T_iinc (pc := 157) d_Md_readWords_157 rfl (nI_1 i) (Nat.le_of_ble_eq_true rfl) rfl ?_
              refine T_goto (tgt := 2) (pc := 160) d_Md_readWords_160 (by decide) ?_
              refine T_loc [0, 3] rfl ?_
              rw [hset] at k6
              have F9 := rF.tr F8 k4
              rw [k1] at hQ
              refine ih (i + 1) p' h' σ' α' (dn ++ [w']) hts2 (by simp [hdn]) hi2 k2 k3 (hs.rF F9) k6 (hr.rF F9) k5 (fun r h2 q => hQ r h2 ?_)
              have q9 := q.up F9
              rw [← dwX_ap] at q9
              exact q9
            · rw [hbt] at k1
              simp only [Bool.false_eq_true, if_false, if_true] at k1
              rw [k1] at hQ
              exact hQ _ _ ⟨_, _, _, k2, rF.tr F8 k3, rfl, k4⟩
          · have hbad : wat l p < 0 ∨ 4 < wat l p := by
              first
                | exact Or.inl q58
                | exact Or.inr (Int32.not_le.mp q63)
            rw [if_pos hbad] at hQ
            refine T_iconst (v := 0) (pc := 66) d_Md_readWords_66 rfl ?_
            refine T_zret (pc := 67) d_Md_readWords_67 rfl (by decide) rfl (Nat.le_refl _) ?_
            exact hQ _ _ ⟨_, _, _, M54x1, ⟨O54x1, sX.rf.up (by decide), aX.rf, fun _ _ => rfl, fun _ _ => rfl⟩, rfl, _, hv⟩
      · rw [hl8, hp] at q31
        have hlt : l.length - p < 4 := by
          have := mt (nle_sub (a := l.length) (b := p) (c := 4) (by omega) (by omega) (by decide)).mpr q31
          omega
        rw [if_pos hlt] at hQ
        refine T_iconst (v := -1) (pc := 34) d_Md_readWords_34 rfl ?_
        refine T_goto (tgt := 46) (pc := 35) d_Md_readWords_35 (by decide) ?_
        refine T_istore_n (pc := 46) d_Md_readWords_46 rfl (Nat.le_of_ble_eq_true rfl) rfl ?_
        refine T_aload_n (pc := 47) d_Md_readWords_47 rfl ?_
        refine T_aload_n (pc := 48) d_Md_readWords_48 rfl ?_
        refine T_get (pc := 49) d_Md_readWords_49 sF_Md_134_Md hM.1 rfl ?_
        refine T_iconst (v := 4) (pc := 52) d_Md_readWords_52 rfl ?_
        refine T_iadd (pc := 53) d_Md_readWords_53 ?_
        refine T_top (show σ 11 + 4 = nI (p + 4) by rw [hp]; exact nI_add p 4) ?_
        refine T_put (pc := 54) d_Md_readWords_54 sF_Md_134_Md hM.1 (Nat.le_of_ble_eq_true rfl) (a_fit_i _) (T_up (fun h54x2 g54x2 o54x2 => ?_))
        have M54x2 := hM.put 11 _ g54x2 o54x2 rfl
        have O54x2 := mdO.o (j := 0) mdO.rf o54x2 (by decide)
        refine T_iload_n (pc := 57) d_Md_readWords_57 rfl ?_
        refine T_if_lt (tgt := 66) (pc := 58) d_Md_readWords_58 (by decide) (fun q58 => ?_) (fun q58 => absurd q58 (by decide))
        refine T_iconst (v := 0) (pc := 66) d_Md_readWords_66 rfl ?_
        refine T_zret (pc := 67) d_Md_readWords_67 rfl (by decide) rfl (Nat.le_refl _) ?_
        exact hQ _ _ ⟨_, _, _, M54x2, ⟨O54x2, sX.rf.up (by decide), aX.rf, fun _ _ => rfl, fun _ _ => rfl⟩, rfl, _, hv⟩
set_option maxRecDepth 100000 in
set_option maxHeartbeats 4000000 in
theorem c_Md_readWords {n m : Nat} {h : aH} {σ : Nat → Int32} {ν : Int64} {α : Nat → Nat → Int32} {ns : List Sf} {l : List Int32} {p : Nat} (hM : Md h m σ ν α) (hs : mSc σ α ns) (hv : mVa α 4 ns (vnil ns)) (hr : mRe σ α l) (hp : σ 11 = nI p) (hq : p ≤ l.length) : Con M_Md_readWords 1 0 0 n [.ref m] h (rbQ h m σ α ns (decW ns (l.drop p))) := by
  refine Con.of rfl (Nat.le_of_ble_eq_true rfl) ?_
  refine T_iconst (v := 0) (pc := 0) d_Md_readWords_0 rfl ?_
  refine T_istore_n (pc := 1) d_Md_readWords_1 rfl (Nat.le_of_ble_eq_true rfl) rfl ?_
  exact c_Md_readWords_out ns 0 p h σ α [] List.drop_zero rfl (Nat.zero_le _) hq hM hs hv hr hp (fun r h' q => by rw [dwX_0] at q; exact q)
