/-! OnceWireModel.accept. -/
set_option maxRecDepth 100000 in
set_option maxHeartbeats 4000000 in
theorem c_Md_accept_loop {n m : Nat} {σ : Nat → Int32} {ν : Int64} {x y : Int32} {f0 : Nat → Int32} {Q : aQ} : ∀ (t i : Nat) (h : aH) (α : Nat → Nat → Int32), i + t = 8 → Md h m σ ν α → (∀ q, α 20 q = if q < i ∧ f0 q = x then -1 else f0 q) → (∀ h' α', Md h' m σ ν α' → mdO h h' m → aX [20] α α' → (∀ q, α' 20 q = if q < 8 ∧ f0 q = x then -1 else f0 q) → Q (some (.int 4)) h') → Tri M_Md_accept (a_rm 2 0 0) (a_Z 0 0 Q) 127 [(3, .int (nI i)), (2, .int x), (1, .int y), (0, .ref m)] [] n h 0 0 := by
  intro t
  induction t with
  | zero =>
    intro i h α hi hM hf hQ
    have hi2 : i = 8 := by omega
    subst hi2
    refine T_iload_n (pc := 127) d_Md_accept_127 rfl ?_
    refine T_bipush (v := 8) (pc := 128) d_Md_accept_128 rfl ?_
    refine T_icmp_ge (tgt := 165) (pc := 130) d_Md_accept_130 (by decide) (fun q130 => ?_) (fun q130 => absurd q130 (by decide))
    refine T_iconst (v := 4) (pc := 165) d_Md_accept_165 rfl ?_
    refine T_iret (pc := 166) d_Md_accept_166 rfl rfl (Nat.le_refl _) ?_
    exact hQ h α hM mdO.rf aX.rf hf
  | succ t ih =>
    intro i h α hi hM hf hQ
    have e20 : α 20 (nI i).toNatClampNeg = f0 i := by
      rw [nI_clamp (by omega), hf, if_neg (fun z => by have := z.1; omega)]
    refine T_iload_n (pc := 127) d_Md_accept_127 rfl ?_
    refine T_bipush (v := 8) (pc := 128) d_Md_accept_128 rfl ?_
    refine T_icmp_ge (tgt := 165) (pc := 130) d_Md_accept_130 (by decide) (fun q130 => absurd q130 (nI_ge (b := 8) (by omega) (by decide))) (fun q130 => ?_)
    refine T_aload_n (pc := 133) d_Md_accept_133 rfl ?_
    refine T_get (pc := 134) d_Md_accept_134 sF_Md_68_Md hM.1 rfl ?_
    refine T_iload_n (pc := 137) d_Md_accept_137 rfl ?_
    refine T_aload_n (pc := 138) d_Md_accept_138 rfl ?_
    refine T_get (pc := 139) d_Md_accept_139 sF_Md_68_Md hM.1 rfl ?_
    refine T_iload_n (pc := 142) d_Md_accept_142 rfl ?_
    refine T_iald (N := 8) (pc := 143) d_Md_accept_143 (hM.arr 20) (vp_in_nI (by omega) (by decide)) ?_
    refine T_top (e20) ?_
    refine T_iload_n (pc := 144) d_Md_accept_144 rfl ?_
    refine T_icmp_ne (tgt := 152) (pc := 145) d_Md_accept_145 (by decide) (fun q145 => ?_) (fun q145 => ?_)
    · refine T_aload_n (pc := 152) d_Md_accept_152 rfl ?_
      refine T_get (pc := 153) d_Md_accept_153 sF_Md_68_Md hM.1 rfl ?_
      refine T_iload_n (pc := 156) d_Md_accept_156 rfl ?_
      refine T_iald (N := 8) (pc := 157) d_Md_accept_157 (hM.arr 20) (vp_in_nI (by omega) (by decide)) ?_
      first | refine T_top e20 ?_ | skip
      refine T_iast (N := 8) (pc := 158) d_Md_accept_158 (by omega) (hM.arr 20) (vp_in_nI (by omega) (by decide)) (T_up (fun h158x1 g158x1 o158x1 => ?_))
      have M158x1 := hM.ast 20 g158x1 o158x1
      have O158x1 := mdO.o (j := 20) mdO.rf o158x1 (by decide)
      refine T_iinc (pc := 159) d_Md_accept_159 rfl (nI_1 i) (Nat.le_of_ble_eq_true rfl) rfl ?_
      refine T_goto (tgt := 127) (pc := 162) d_Md_accept_162 (by decide) ?_
      have M9 := M158x1
      rw [nI_clamp (by omega)] at M9
      refine ih (i + 1) _ _ (by omega) M9 (fun q => ?_) (fun h' α' k1 k2 k3 k4 => hQ h' α' k1 (mdO.tr O158x1 k2) ((aX.rf.up (by decide)).tr k3) k4)
      rw [va_up_self]
      by_cases e : q = i
      · subst e
        rw [pk_us]
        first
          | exact (if_neg (fun z => q145 z.2)).symm
          | exact (if_pos ⟨Nat.lt_succ_self _, q145⟩).symm
      · rw [pk_un e, hf]
        by_cases z : f0 q = x
        · rcases Nat.lt_or_ge q i with w | w
          · rw [if_pos ⟨w, z⟩, if_pos ⟨by omega, z⟩]
          · rw [if_neg (fun k => by have := k.1; omega), if_neg (fun k => by have := k.1; omega)]
        · rw [if_neg (fun k => z k.2), if_neg (fun k => z k.2)]
    · refine T_iconst (v := -1) (pc := 148) d_Md_accept_148 rfl ?_
      refine T_goto (tgt := 158) (pc := 149) d_Md_accept_149 (by decide) ?_
      first | refine T_top e20 ?_ | skip
      refine T_iast (N := 8) (pc := 158) d_Md_accept_158 (by omega) (hM.arr 20) (vp_in_nI (by omega) (by decide)) (T_up (fun h158x2 g158x2 o158x2 => ?_))
      have M158x2 := hM.ast 20 g158x2 o158x2
      have O158x2 := mdO.o (j := 20) mdO.rf o158x2 (by decide)
      refine T_iinc (pc := 159) d_Md_accept_159 rfl (nI_1 i) (Nat.le_of_ble_eq_true rfl) rfl ?_
      refine T_goto (tgt := 127) (pc := 162) d_Md_accept_162 (by decide) ?_
      have M9 := M158x2
      rw [nI_clamp (by omega)] at M9
      refine ih (i + 1) _ _ (by omega) M9 (fun q => ?_) (fun h' α' k1 k2 k3 k4 => hQ h' α' k1 (mdO.tr O158x2 k2) ((aX.rf.up (by decide)).tr k3) k4)
      rw [va_up_self]
      by_cases e : q = i
      · subst e
        rw [pk_us]
        first
          | exact (if_neg (fun z => q145 z.2)).symm
          | exact (if_pos ⟨Nat.lt_succ_self _, q145⟩).symm
      · rw [pk_un e, hf]
        by_cases z : f0 q = x
        · rcases Nat.lt_or_ge q i with w | w
          · rw [if_pos ⟨w, z⟩, if_pos ⟨by omega, z⟩]
          · rw [if_neg (fun k => by have := k.1; omega), if_neg (fun k => by have := k.1; omega)]
        · rw [if_neg (fun k => z k.2), if_neg (fun k => z k.2)]
set_option maxRecDepth 100000 in
set_option maxHeartbeats 4000000 in
theorem c_Md_accept_ok {n m : Nat} {h : aH} {σ : Nat → Int32} {ν : Int64} {α : Nat → Nat → Int32} {l : List Int32} {j : Nat} {y : Int32} {Q : aQ} (hM : Md h m σ ν α) (hr : mRe σ α l) (hj : j < 100) (h16 : y = 0 → 16 ≤ l.length) (hQ : ∀ h' α', Md h' m σ ν α' → mdO h h' m → aX [15, 16, 20] α α' → α' 15 = upd (α 15) j y → α' 16 = upd (α 16) j (if y = 0 then wat l 12 else 0) → (∀ q, α' 20 q = if q < 8 ∧ α 20 q = nI j then -1 else α 20 q) → Q (some (.int 4)) h') : Tri M_Md_accept (a_rm 2 0 0) (a_Z 0 0 Q) 98 [(2, .int (nI j)), (1, .int y), (0, .ref m)] [] n h 0 0 := by
  refine T_aload_n (pc := 98) d_Md_accept_98 rfl ?_
  refine T_get (pc := 99) d_Md_accept_99 sF_Md_53_Md hM.1 rfl ?_
  refine T_iload_n (pc := 102) d_Md_accept_102 rfl ?_
  refine T_iload_n (pc := 103) d_Md_accept_103 rfl ?_
  refine T_iast (N := 100) (pc := 104) d_Md_accept_104 (by omega) (hM.arr 15) (vp_in_nI (by omega) (by decide)) (T_up (fun h104x1 g104x1 o104x1 => ?_))
  have M104x1 := hM.ast 15 g104x1 o104x1
  have O104x1 := mdO.o (j := 15) mdO.rf o104x1 (by decide)
  refine T_aload_n (pc := 105) d_Md_accept_105 rfl ?_
  refine T_get (pc := 106) d_Md_accept_106 sF_Md_56_Md M104x1.1 rfl ?_
  refine T_iload_n (pc := 109) d_Md_accept_109 rfl ?_
  refine T_iload_n (pc := 110) d_Md_accept_110 rfl ?_
  refine T_if_ne (tgt := 123) (pc := 111) d_Md_accept_111 (by decide) (fun q111 => ?_) (fun q111 => ?_)
  · refine T_iconst (v := 0) (pc := 123) d_Md_accept_123 rfl ?_
    refine T_iast (N := 100) (pc := 124) d_Md_accept_124 (by omega) (M104x1.arr 16) (vp_in_nI (by omega) (by decide)) (T_up (fun h124x2 g124x2 o124x2 => ?_))
    have M124x2 := M104x1.ast 16 g124x2 o124x2
    have O124x2 := mdO.o (j := 16) O104x1 o124x2 (by decide)
    refine T_iconst (v := 0) (pc := 125) d_Md_accept_125 rfl ?_
    refine T_istore_n (pc := 126) d_Md_accept_126 rfl (Nat.le_of_ble_eq_true rfl) rfl ?_
    have M9 := M124x2
    rw [nI_clamp (by omega)] at M9
    refine c_Md_accept_loop (f0 := α 20) 8 0 _ _ rfl M9 (fun q => ?_) (fun h' α' k1 k2 k3 k4 => hQ h' α' k1 (mdO.tr O124x2 k2) (((aX.rf.up (by decide)).up (by decide)).tr (k3.mono (by decide))) ?_ ?_ k4)
    · rw [va_up_ne _ _ (by decide), va_up_ne _ _ (by decide), if_neg (fun z => absurd z.1 (Nat.not_lt_zero q))]
    · rw [k3 15 (by decide), va_up_ne _ _ (by decide), va_up_self]
    · rw [k3 16 (by decide), va_up_self, va_up_ne _ _ (by decide)]
      first
        | rw [if_pos q111]
        | rw [if_neg q111]
  · refine T_aload_n (pc := 114) d_Md_accept_114 rfl ?_
    refine T_bipush (v := 12) (pc := 115) d_Md_accept_115 rfl ?_
    refine T_ivV (pc := 117) d_Md_accept_117 sI_Md_160 (c_Md_word (p := 12) M104x1 (hr.same rfl (va_up_ne _ _ (by decide))) (by have := h16 q111; omega)) M104x1.1 rfl rfl ⟨(Nat.le_of_ble_eq_true rfl), (Nat.le_of_ble_eq_true rfl)⟩ ⟨(Nat.le_of_ble_eq_true rfl), (Nat.le_of_ble_eq_true rfl)⟩ (Nat.le_of_ble_eq_true rfl) (fun r1 h1 q1 => ?_)
    obtain ⟨rfl, e1⟩ := q1
    rw [e1]
    refine T_goto (tgt := 124) (pc := 120) d_Md_accept_120 (by decide) ?_
    refine T_iast (N := 100) (pc := 124) d_Md_accept_124 (by omega) (M104x1.arr 16) (vp_in_nI (by omega) (by decide)) (T_up (fun h124x3 g124x3 o124x3 => ?_))
    have M124x3 := M104x1.ast 16 g124x3 o124x3
    have O124x3 := mdO.o (j := 16) O104x1 o124x3 (by decide)
    refine T_iconst (v := 0) (pc := 125) d_Md_accept_125 rfl ?_
    refine T_istore_n (pc := 126) d_Md_accept_126 rfl (Nat.le_of_ble_eq_true rfl) rfl ?_
    have M9 := M124x3
    rw [nI_clamp (by omega)] at M9
    refine c_Md_accept_loop (f0 := α 20) 8 0 _ _ rfl M9 (fun q => ?_) (fun h' α' k1 k2 k3 k4 => hQ h' α' k1 (mdO.tr O124x3 k2) (((aX.rf.up (by decide)).up (by decide)).tr (k3.mono (by decide))) ?_ ?_ k4)
    · rw [va_up_ne _ _ (by decide), va_up_ne _ _ (by decide), if_neg (fun z => absurd z.1 (Nat.not_lt_zero q))]
    · rw [k3 15 (by decide), va_up_ne _ _ (by decide), va_up_self]
    · rw [k3 16 (by decide), va_up_self, va_up_ne _ _ (by decide)]
      first
        | rw [if_pos q111]
        | rw [if_neg q111]
set_option maxRecDepth 100000 in
set_option maxHeartbeats 4000000 in
theorem c_Md_accept {n m : Nat} {h : aH} {σ : Nat → Int32} {ν : Int64} {α : Nat → Nat → Int32} {cs : List (Int32 × Int32)} {ps : List Pd} {sl : List Nat} {l2 : List Int32} (hM : Md h m σ ν α) (hc : mCl σ α cs) (hp : mPd α cs ps sl) (hm : mMe σ α l2) (hby : byt l2) : Con M_Md_accept 2 0 0 n [.ref m] h (mQ h m (fun r σ' ν' α' => r = some (.int (cliF cs ps l2).1) ∧ mCl σ' α' (cliF cs ps l2).2.1 ∧ (∃ sl', mPd α' (cliF cs ps l2).2.1 (cliF cs ps l2).2.2 sl') ∧ sX [8] σ σ' ∧ aX [6, 15, 16, 20] α α')) := by
  refine Con.of rfl (Nat.le_of_ble_eq_true rfl) ?_
  refine T_aload_n (pc := 0) d_Md_accept_0 rfl ?_
  refine T_ivV (pc := 1) d_Md_accept_1 sI_Md_185 (c_Md_gather hM hm hby) hM.1 rfl rfl ⟨(Nat.le_of_ble_eq_true rfl), (Nat.le_of_ble_eq_true rfl)⟩ ⟨(Nat.le_of_ble_eq_true rfl), (Nat.le_of_ble_eq_true rfl)⟩ (Nat.le_of_ble_eq_true rfl) (fun r1 h1 q1 => ?_)
  obtain ⟨σ1, ν1, α1, M1, O1, e1, s1, a1, k1⟩ := q1
  have hc1 : mCl σ1 α1 cs := hc.same (s1 25 (by decide)) (a1 15 (by decide)) (a1 16 (by decide))
  have hp1 : mPd α1 cs ps sl := hp.same (a1 17 (by decide)) (a1 18 (by decide)) (a1 19 (by decide)) (a1 20 (by decide))
  have ax1 : aX [6, 15, 16, 20] α α1 := a1.mono (by decide)
  have h100 := hc.1
  have e25 : σ1 25 = nI cs.length := hc1.2.1
  have W0 : ∀ X : Cs, X.2 = (cs, ps) → (∃ σ' ν' α', Md h1 m σ' ν' α' ∧ mdO h h1 m ∧ some (Value.int X.1) = some (.int X.1) ∧ mCl σ' α' X.2.1 ∧ (∃ sl', mPd α' X.2.1 X.2.2 sl') ∧ sX [8] σ σ' ∧ aX [6, 15, 16, 20] α α') := fun X e => by
    rw [e]
    exact ⟨σ1, ν1, α1, M1, O1, rfl, hc1, ⟨sl, hp1⟩, s1, ax1⟩
  rcases hX : uw 60 l2 with _ | l
  · rw [hX] at k1
    obtain ⟨rfl, R, hR⟩ := k1
    have eF : cliF cs ps l2 = (-2, cs, ps) := by unfold cliF; rw [uw_60 hm.1, hX]
    rw [eF]
    refine T_if_eq (tgt := 16) (pc := 4) d_Md_accept_4 (by decide) (fun q4 => ?_) (fun q4 => absurd q4 (by decide))
    refine T_bipush (v := -2) (pc := 16) d_Md_accept_16 rfl ?_
    refine T_iret (pc := 18) d_Md_accept_18 rfl rfl (Nat.le_refl _) ?_
    exact W0 (-2, cs, ps) rfl
  · rw [hX] at k1
    obtain ⟨rfl, hr1⟩ := k1
    have hl210 := hr1.1
    have eF : cliF cs ps l2 = if l.length < 12 then (-2, cs, ps) else if wat l 4 ≠ 1 then (-3, cs, ps) else if wat l 8 < 0 ∨ 2 < wat l 8 then (-2, cs, ps) else if l.length ≠ (if wat l 8 = 0 then 16 else 12) then (-2, cs, ps) else cliG cs ps l := by unfold cliF; rw [uw_60 hm.1, hX]
    rw [eF]
    refine T_if_eq (tgt := 16) (pc := 4) d_Md_accept_4 (by decide) (fun q4 => absurd q4 (by decide)) (fun q4 => ?_)
    refine T_aload_n (pc := 7) d_Md_accept_7 rfl ?_
    refine T_get (pc := 8) d_Md_accept_8 sF_Md_87_Md M1.1 rfl ?_
    refine T_bipush (v := 12) (pc := 11) d_Md_accept_11 rfl ?_
    rw [show σ1 8 = nI l.length from hr1.2.1]
    refine T_icmp_ge (tgt := 19) (pc := 13) d_Md_accept_13 (by decide) (fun q13 => ?_) (fun q13 => ?_)
    · have h12 : 12 ≤ l.length := by
        rcases Nat.lt_or_ge l.length 12 with z | z
        · exact absurd q13 (nI_ge z (by decide))
        · exact z
      rw [if_neg (by omega)]
      refine T_aload_n (pc := 19) d_Md_accept_19 rfl ?_
      refine T_iconst (v := 4) (pc := 20) d_Md_accept_20 rfl ?_
      refine T_ivV (pc := 21) d_Md_accept_21 sI_Md_160 (c_Md_word (p := 4) M1 hr1 (by omega)) M1.1 rfl rfl ⟨(Nat.le_of_ble_eq_true rfl), (Nat.le_of_ble_eq_true rfl)⟩ ⟨(Nat.le_of_ble_eq_true rfl), (Nat.le_of_ble_eq_true rfl)⟩ (Nat.le_of_ble_eq_true rfl) (fun r21 h21 q21 => ?_)
      obtain ⟨rfl, e21⟩ := q21
      rw [e21]
      refine T_iconst (v := 1) (pc := 24) d_Md_accept_24 rfl ?_
      refine T_icmp_eq (tgt := 31) (pc := 25) d_Md_accept_25 (by decide) (fun q25 => ?_) (fun q25 => ?_)
      · rw [if_neg (fun z => z q25)]
        refine T_aload_n (pc := 31) d_Md_accept_31 rfl ?_
        refine T_bipush (v := 8) (pc := 32) d_Md_accept_32 rfl ?_
        refine T_ivV (pc := 34) d_Md_accept_34 sI_Md_160 (c_Md_word (p := 8) M1 hr1 (by omega)) M1.1 rfl rfl ⟨(Nat.le_of_ble_eq_true rfl), (Nat.le_of_ble_eq_true rfl)⟩ ⟨(Nat.le_of_ble_eq_true rfl), (Nat.le_of_ble_eq_true rfl)⟩ (Nat.le_of_ble_eq_true rfl) (fun r34 h34 q34 => ?_)
        obtain ⟨rfl, e34⟩ := q34
        rw [e34]
        refine T_istore_n (pc := 37) d_Md_accept_37 rfl (Nat.le_of_ble_eq_true rfl) rfl ?_
        refine T_iload_n (pc := 38) d_Md_accept_38 rfl ?_
        refine T_if_lt (tgt := 65) (pc := 39) d_Md_accept_39 (by decide) (fun q39 => ?_) (fun q39 => ?_)
        · first
            | rw [if_pos (Or.inl q39)]
            | rw [if_pos (Or.inr q44)]
          refine T_bipush (v := -2) (pc := 65) d_Md_accept_65 rfl ?_
          refine T_iret (pc := 67) d_Md_accept_67 rfl rfl (Nat.le_refl _) ?_
          exact W0 (-2, cs, ps) rfl
        · refine T_iload_n (pc := 42) d_Md_accept_42 rfl ?_
          refine T_iconst (v := 2) (pc := 43) d_Md_accept_43 rfl ?_
          refine T_icmp_gt (tgt := 65) (pc := 44) d_Md_accept_44 (by decide) (fun q44 => ?_) (fun q44 => ?_)
          · first
              | rw [if_pos (Or.inl q39)]
              | rw [if_pos (Or.inr q44)]
            refine T_bipush (v := -2) (pc := 65) d_Md_accept_65 rfl ?_
            refine T_iret (pc := 67) d_Md_accept_67 rfl rfl (Nat.le_refl _) ?_
            exact W0 (-2, cs, ps) rfl
          · have hok8 : ¬ (wat l 8 < 0 ∨ 2 < wat l 8) := by
              rintro (z | z)
              · exact q39 z
              · exact q44 z
            rw [if_neg hok8]
            refine T_aload_n (pc := 47) d_Md_accept_47 rfl ?_
            refine T_get (pc := 48) d_Md_accept_48 sF_Md_87_Md M1.1 rfl ?_
            refine T_iload_n (pc := 51) d_Md_accept_51 rfl ?_
            rw [show σ1 8 = nI l.length from hr1.2.1]
            refine T_if_ne (tgt := 60) (pc := 52) d_Md_accept_52 (by decide) (fun q52 => ?_) (fun q52 => ?_)
            · refine T_bipush (v := 12) (pc := 60) d_Md_accept_60 rfl ?_
              first
                | rw [if_pos q52]
                | rw [if_neg q52]
              refine T_icmp_eq (tgt := 68) (pc := 62) d_Md_accept_62 (by decide) (fun q62 => ?_) (fun q62 => ?_)
              · have hlen : l.length = (if wat l 8 = 0 then 16 else 12) := by
                  first
                    | (rw [if_pos q52]; exact (nI_eq (a := l.length) (b := 16) (by omega) (by decide)).mp q62)
                    | (rw [if_neg q52]; exact (nI_eq (a := l.length) (b := 12) (by omega) (by decide)).mp q62)
                first
                  | rw [if_neg (fun z => z (by rw [if_pos q52] at hlen; exact hlen))]
                  | rw [if_neg (fun z => z (by rw [if_neg q52] at hlen; exact hlen))]
                refine T_aload_n (pc := 68) d_Md_accept_68 rfl ?_
                refine T_iconst (v := 0) (pc := 69) d_Md_accept_69 rfl ?_
                refine T_ivV (pc := 70) d_Md_accept_70 sI_Md_160 (c_Md_word (p := 0) M1 hr1 (by omega)) M1.1 rfl rfl ⟨(Nat.le_of_ble_eq_true rfl), (Nat.le_of_ble_eq_true rfl)⟩ ⟨(Nat.le_of_ble_eq_true rfl), (Nat.le_of_ble_eq_true rfl)⟩ (Nat.le_of_ble_eq_true rfl) (fun r70 h70 q70 => ?_)
                obtain ⟨rfl, e70⟩ := q70
                rw [e70]
                refine T_istore_n (pc := 73) d_Md_accept_73 rfl (Nat.le_of_ble_eq_true rfl) rfl ?_
                refine T_iload_n (pc := 74) d_Md_accept_74 rfl ?_
                refine T_if_lt (tgt := 96) (pc := 75) d_Md_accept_75 (by decide) (fun q75 => ?_) (fun q75 => ?_)
                · have eG : cliG cs ps l = (5, cs, ps) := by
                    unfold cliG
                    rw [hp1.no h100 (fun j c ej hjc h3 => ?_)]
                    have hj := (List.getElem?_eq_some_iff.mp hjc).1
                    first
                      | exact absurd q75 (by rw [ej]; exact nI_pos (by omega))
                      | exact absurd q83 (by rw [ej]; exact nI_ge hj (by omega))
                      | (refine q93 ?_
                         rw [ej, nI_clamp (by omega), (hc1.2.2 j c hjc).1]
                         exact h3)
                  rw [eG]
                  refine T_iconst (v := 5) (pc := 96) d_Md_accept_96 rfl ?_
                  refine T_iret (pc := 97) d_Md_accept_97 rfl rfl (Nat.le_refl _) ?_
                  exact W0 (5, cs, ps) rfl
                · refine T_iload_n (pc := 78) d_Md_accept_78 rfl ?_
                  refine T_aload_n (pc := 79) d_Md_accept_79 rfl ?_
                  refine T_get (pc := 80) d_Md_accept_80 sF_Md_201_Md M1.1 rfl ?_
                  refine T_top (e25) ?_
                  refine T_icmp_ge (tgt := 96) (pc := 83) d_Md_accept_83 (by decide) (fun q83 => ?_) (fun q83 => ?_)
                  · have eG : cliG cs ps l = (5, cs, ps) := by
                      unfold cliG
                      rw [hp1.no h100 (fun j c ej hjc h3 => ?_)]
                      have hj := (List.getElem?_eq_some_iff.mp hjc).1
                      first
                        | exact absurd q75 (by rw [ej]; exact nI_pos (by omega))
                        | exact absurd q83 (by rw [ej]; exact nI_ge hj (by omega))
                        | (refine q93 ?_
                           rw [ej, nI_clamp (by omega), (hc1.2.2 j c hjc).1]
                           exact h3)
                    rw [eG]
                    refine T_iconst (v := 5) (pc := 96) d_Md_accept_96 rfl ?_
                    refine T_iret (pc := 97) d_Md_accept_97 rfl rfl (Nat.le_refl _) ?_
                    exact W0 (5, cs, ps) rfl
                  · obtain ⟨j, hj, ej⟩ : ∃ j : Nat, j < cs.length ∧ wat l 0 = nI j := by
                      obtain ⟨j, hj31, ej⟩ := nI_of q75
                      rcases Nat.lt_or_ge j cs.length with z | z
                      · exact ⟨j, z, ej⟩
                      · exact absurd (by rw [ej]; exact nI_le z hj31) q83
                    obtain ⟨c, hjc⟩ : ∃ c, cs[j]? = some c := ⟨_, List.getElem?_eq_getElem hj⟩
                    refine T_aload_n (pc := 86) d_Md_accept_86 rfl ?_
                    refine T_get (pc := 87) d_Md_accept_87 sF_Md_53_Md M1.1 rfl ?_
                    refine T_iload_n (pc := 90) d_Md_accept_90 rfl ?_
                    refine T_iald (N := 100) (pc := 91) d_Md_accept_91 (M1.arr 15) (by rw [ej]; exact vp_in_nI (by omega) (by decide)) ?_
                    refine T_iconst (v := 3) (pc := 92) d_Md_accept_92 rfl ?_
                    refine T_icmp_eq (tgt := 98) (pc := 93) d_Md_accept_93 (by decide) (fun q93 => ?_) (fun q93 => ?_)
                    · rw [ej, nI_clamp (by omega), (hc1.2.2 j c hjc).1] at q93
                      obtain ⟨k, g, hpp, hg, eg, hpk⟩ := hp1.pos h100 hjc q93
                      have eG : cliG cs ps l = (4, cs.set j (wat l 8, if wat l 8 = 0 then wat l 12 else 0), ps.eraseIdx k) := by
                        unfold cliG
                        rw [ej, hpp]
                        simp only [List.getD_eq_getElem?_getD, hg, Option.getD_some]
                        rw [eg, nI_clamp (by omega)]
                      rw [eG, ej]
                      refine c_Md_accept_ok (l := l) M1 hr1 (by omega) (fun z => by rw [if_pos z] at hlen; omega) (fun h' α' k1 k2 k3 k4 k5 k6 => ?_)
                      have h3 : wat l 8 ≠ 3 := fun z => hok8 (Or.inr (by rw [z]; decide))
                      refine ⟨σ1, ν1, α', k1, O1.tr k2, rfl, ?_, ⟨_, hp1.take h100 hg hpk (d := (wat l 8, if wat l 8 = 0 then wat l 12 else 0)) h3 (k3 17 (by decide)) (k3 18 (by decide)) (k3 19 (by decide)) (fun q => by rw [k6 q, eg])⟩, s1, ax1.tr (k3.mono (by decide))⟩
                      refine ⟨by rw [List.length_set]; exact hc1.1, by rw [List.length_set]; exact hc1.2.1, fun i g' hi => ?_⟩
                      rw [k4, k5]
                      by_cases e : i = j
                      · subst e
                        rw [List.getElem?_set_self hj] at hi
                        cases hi
                        rw [pk_us, pk_us]
                        refine ⟨rfl, ?_⟩
                        split <;> rfl
                      · rw [List.getElem?_set_ne (fun z => e z.symm)] at hi
                        rw [pk_un e, pk_un e]
                        exact hc1.2.2 i g' hi
                    · have eG : cliG cs ps l = (5, cs, ps) := by
                        unfold cliG
                        rw [hp1.no h100 (fun j c ej hjc h3 => ?_)]
                        have hj := (List.getElem?_eq_some_iff.mp hjc).1
                        first
                          | exact absurd q75 (by rw [ej]; exact nI_pos (by omega))
                          | exact absurd q83 (by rw [ej]; exact nI_ge hj (by omega))
                          | (refine q93 ?_
                             rw [ej, nI_clamp (by omega), (hc1.2.2 j c hjc).1]
                             exact h3)
                      rw [eG]
                      refine T_iconst (v := 5) (pc := 96) d_Md_accept_96 rfl ?_
                      refine T_iret (pc := 97) d_Md_accept_97 rfl rfl (Nat.le_refl _) ?_
                      exact W0 (5, cs, ps) rfl
              · rw [if_pos (fun z => q62 (by rw [z]; rfl))]
                refine T_bipush (v := -2) (pc := 65) d_Md_accept_65 rfl ?_
                refine T_iret (pc := 67) d_Md_accept_67 rfl rfl (Nat.le_refl _) ?_
                exact W0 (-2, cs, ps) rfl
            · refine T_bipush (v := 16) (pc := 55) d_Md_accept_55 rfl ?_
              refine T_goto (tgt := 62) (pc := 57) d_Md_accept_57 (by decide) ?_
              first
                | rw [if_pos q52]
                | rw [if_neg q52]
              refine T_icmp_eq (tgt := 68) (pc := 62) d_Md_accept_62 (by decide) (fun q62 => ?_) (fun q62 => ?_)
              · have hlen : l.length = (if wat l 8 = 0 then 16 else 12) := by
                  first
                    | (rw [if_pos q52]; exact (nI_eq (a := l.length) (b := 16) (by omega) (by decide)).mp q62)
                    | (rw [if_neg q52]; exact (nI_eq (a := l.length) (b := 12) (by omega) (by decide)).mp q62)
                first
                  | rw [if_neg (fun z => z (by rw [if_pos q52] at hlen; exact hlen))]
                  | rw [if_neg (fun z => z (by rw [if_neg q52] at hlen; exact hlen))]
                refine T_aload_n (pc := 68) d_Md_accept_68 rfl ?_
                refine T_iconst (v := 0) (pc := 69) d_Md_accept_69 rfl ?_
                refine T_ivV (pc := 70) d_Md_accept_70 sI_Md_160 (c_Md_word (p := 0) M1 hr1 (by omega)) M1.1 rfl rfl ⟨(Nat.le_of_ble_eq_true rfl), (Nat.le_of_ble_eq_true rfl)⟩ ⟨(Nat.le_of_ble_eq_true rfl), (Nat.le_of_ble_eq_true rfl)⟩ (Nat.le_of_ble_eq_true rfl) (fun r70 h70 q70 => ?_)
                obtain ⟨rfl, e70⟩ := q70
                rw [e70]
                refine T_istore_n (pc := 73) d_Md_accept_73 rfl (Nat.le_of_ble_eq_true rfl) rfl ?_
                refine T_iload_n (pc := 74) d_Md_accept_74 rfl ?_
                refine T_if_lt (tgt := 96) (pc := 75) d_Md_accept_75 (by decide) (fun q75 => ?_) (fun q75 => ?_)
                · have eG : cliG cs ps l = (5, cs, ps) := by
                    unfold cliG
                    rw [hp1.no h100 (fun j c ej hjc h3 => ?_)]
                    have hj := (List.getElem?_eq_some_iff.mp hjc).1
                    first
                      | exact absurd q75 (by rw [ej]; exact nI_pos (by omega))
                      | exact absurd q83 (by rw [ej]; exact nI_ge hj (by omega))
                      | (refine q93 ?_
                         rw [ej, nI_clamp (by omega), (hc1.2.2 j c hjc).1]
                         exact h3)
                  rw [eG]
                  refine T_iconst (v := 5) (pc := 96) d_Md_accept_96 rfl ?_
                  refine T_iret (pc := 97) d_Md_accept_97 rfl rfl (Nat.le_refl _) ?_
                  exact W0 (5, cs, ps) rfl
                · refine T_iload_n (pc := 78) d_Md_accept_78 rfl ?_
                  refine T_aload_n (pc := 79) d_Md_accept_79 rfl ?_
                  refine T_get (pc := 80) d_Md_accept_80 sF_Md_201_Md M1.1 rfl ?_
                  refine T_top (e25) ?_
                  refine T_icmp_ge (tgt := 96) (pc := 83) d_Md_accept_83 (by decide) (fun q83 => ?_) (fun q83 => ?_)
                  · have eG : cliG cs ps l = (5, cs, ps) := by
                      unfold cliG
                      rw [hp1.no h100 (fun j c ej hjc h3 => ?_)]
                      have hj := (List.getElem?_eq_some_iff.mp hjc).1
                      first
                        | exact absurd q75 (by rw [ej]; exact nI_pos (by omega))
                        | exact absurd q83 (by rw [ej]; exact nI_ge hj (by omega))
                        | (refine q93 ?_
                           rw [ej, nI_clamp (by omega), (hc1.2.2 j c hjc).1]
                           exact h3)
                    rw [eG]
                    refine T_iconst (v := 5) (pc := 96) d_Md_accept_96 rfl ?_
                    refine T_iret (pc := 97) d_Md_accept_97 rfl rfl (Nat.le_refl _) ?_
                    exact W0 (5, cs, ps) rfl
                  · obtain ⟨j, hj, ej⟩ : ∃ j : Nat, j < cs.length ∧ wat l 0 = nI j := by
                      obtain ⟨j, hj31, ej⟩ := nI_of q75
                      rcases Nat.lt_or_ge j cs.length with z | z
                      · exact ⟨j, z, ej⟩
                      · exact absurd (by rw [ej]; exact nI_le z hj31) q83
                    obtain ⟨c, hjc⟩ : ∃ c, cs[j]? = some c := ⟨_, List.getElem?_eq_getElem hj⟩
                    refine T_aload_n (pc := 86) d_Md_accept_86 rfl ?_
                    refine T_get (pc := 87) d_Md_accept_87 sF_Md_53_Md M1.1 rfl ?_
                    refine T_iload_n (pc := 90) d_Md_accept_90 rfl ?_
                    refine T_iald (N := 100) (pc := 91) d_Md_accept_91 (M1.arr 15) (by rw [ej]; exact vp_in_nI (by omega) (by decide)) ?_
                    refine T_iconst (v := 3) (pc := 92) d_Md_accept_92 rfl ?_
                    refine T_icmp_eq (tgt := 98) (pc := 93) d_Md_accept_93 (by decide) (fun q93 => ?_) (fun q93 => ?_)
                    · rw [ej, nI_clamp (by omega), (hc1.2.2 j c hjc).1] at q93
                      obtain ⟨k, g, hpp, hg, eg, hpk⟩ := hp1.pos h100 hjc q93
                      have eG : cliG cs ps l = (4, cs.set j (wat l 8, if wat l 8 = 0 then wat l 12 else 0), ps.eraseIdx k) := by
                        unfold cliG
                        rw [ej, hpp]
                        simp only [List.getD_eq_getElem?_getD, hg, Option.getD_some]
                        rw [eg, nI_clamp (by omega)]
                      rw [eG, ej]
                      refine c_Md_accept_ok (l := l) M1 hr1 (by omega) (fun z => by rw [if_pos z] at hlen; omega) (fun h' α' k1 k2 k3 k4 k5 k6 => ?_)
                      have h3 : wat l 8 ≠ 3 := fun z => hok8 (Or.inr (by rw [z]; decide))
                      refine ⟨σ1, ν1, α', k1, O1.tr k2, rfl, ?_, ⟨_, hp1.take h100 hg hpk (d := (wat l 8, if wat l 8 = 0 then wat l 12 else 0)) h3 (k3 17 (by decide)) (k3 18 (by decide)) (k3 19 (by decide)) (fun q => by rw [k6 q, eg])⟩, s1, ax1.tr (k3.mono (by decide))⟩
                      refine ⟨by rw [List.length_set]; exact hc1.1, by rw [List.length_set]; exact hc1.2.1, fun i g' hi => ?_⟩
                      rw [k4, k5]
                      by_cases e : i = j
                      · subst e
                        rw [List.getElem?_set_self hj] at hi
                        cases hi
                        rw [pk_us, pk_us]
                        refine ⟨rfl, ?_⟩
                        split <;> rfl
                      · rw [List.getElem?_set_ne (fun z => e z.symm)] at hi
                        rw [pk_un e, pk_un e]
                        exact hc1.2.2 i g' hi
                    · have eG : cliG cs ps l = (5, cs, ps) := by
                        unfold cliG
                        rw [hp1.no h100 (fun j c ej hjc h3 => ?_)]
                        have hj := (List.getElem?_eq_some_iff.mp hjc).1
                        first
                          | exact absurd q75 (by rw [ej]; exact nI_pos (by omega))
                          | exact absurd q83 (by rw [ej]; exact nI_ge hj (by omega))
                          | (refine q93 ?_
                             rw [ej, nI_clamp (by omega), (hc1.2.2 j c hjc).1]
                             exact h3)
                      rw [eG]
                      refine T_iconst (v := 5) (pc := 96) d_Md_accept_96 rfl ?_
                      refine T_iret (pc := 97) d_Md_accept_97 rfl rfl (Nat.le_refl _) ?_
                      exact W0 (5, cs, ps) rfl
              · rw [if_pos (fun z => q62 (by rw [z]; rfl))]
                refine T_bipush (v := -2) (pc := 65) d_Md_accept_65 rfl ?_
                refine T_iret (pc := 67) d_Md_accept_67 rfl rfl (Nat.le_refl _) ?_
                exact W0 (-2, cs, ps) rfl
      · rw [if_pos q25]
        refine T_bipush (v := -3) (pc := 28) d_Md_accept_28 rfl ?_
        refine T_iret (pc := 30) d_Md_accept_30 rfl rfl (Nat.le_refl _) ?_
        exact W0 (-3, cs, ps) rfl
    · have hlt : l.length < 12 := by
        rcases Nat.lt_or_ge l.length 12 with z | z
        · exact z
        · exact absurd (nI_le z (by omega)) q13
      rw [if_pos hlt]
      refine T_bipush (v := -2) (pc := 16) d_Md_accept_16 rfl ?_
      refine T_iret (pc := 18) d_Md_accept_18 rfl rfl (Nat.le_refl _) ?_
      exact W0 (-2, cs, ps) rfl
