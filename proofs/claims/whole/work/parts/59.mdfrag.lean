/-! OnceWireModel.fragment. -/
def hdr (n : Nat) : List Int32 := [if n ≤ 16 then 128 else 0, 0, 0, nI (min n 16)]
def fz : List Int32 → Nat → List Int32
  | [], _ => []
  | x :: us, c => (if c = 0 then hdr (us.length + 1) else []) ++ x :: fz us ((c + 1) % 16)
theorem fz_in : ∀ (us : List Int32) (c : Nat), 1 ≤ c → c < 16 → fz us c = us.take (16 - c) ++ fz (us.drop (16 - c)) 0
  | [], c, _, _ => by simp [fz]
  | x :: us, c, h1, h2 => by
    rw [fz, if_neg (by omega), List.nil_append]
    by_cases e : c = 15
    · subst e
      rfl
    · rw [Nat.mod_eq_of_lt (by omega), fz_in us (c + 1) (by omega) (by omega), show 16 - c = (16 - (c + 1)) + 1 by omega, List.take_succ_cons, List.drop_succ_cons]
      rfl
theorem fz_0 (us : List Int32) (h : 0 < us.length) : fz us 0 = hdr us.length ++ (us.take 16 ++ fz (us.drop 16) 0) := by
  cases us with
  | nil => exact absurd h (Nat.lt_irrefl 0)
  | cons x us =>
    rw [fz, if_pos rfl, show (0 + 1) % 16 = 1 from rfl, fz_in us 1 (by omega) (by omega)]
    rfl
theorem hdr_le : ∀ n, n < 17 → 0 < n → wby (nI n + (-2147483648)) = hdr n := by decide +kernel
theorem hdr_gt {n : Nat} (h : 16 < n) : wby 16 = hdr n := by
  unfold hdr
  rw [if_neg (by omega), Nat.min_eq_right (by omega)]
  decide +kernel
theorem fz_wrap : ∀ (k : Nat) (us : List Int32), us.length ≤ 16 * k → fz us 0 = wrapL k us
  | 0, us, h => by
    have : us = [] := List.eq_nil_of_length_eq_zero (by omega)
    subst this
    rfl
  | k + 1, us, h => by
    rw [wrapL]
    by_cases e : us.length = 0
    · rw [if_pos e, List.eq_nil_of_length_eq_zero e]
      rfl
    · rw [if_neg e, fz_0 us (by omega)]
      by_cases e2 : us.length ≤ 16
      · rw [if_pos e2, hdr_le _ (by omega) (by omega), List.drop_eq_nil_of_le e2, List.take_of_length_le e2]
        simp [fz]
      · rw [if_neg e2, hdr_gt (n := us.length) (by omega), fz_wrap k (us.drop 16) (by rw [List.length_drop]; omega)]
theorem mMe.app {σ : Nat → Int32} {α : Nat → Nat → Int32} {M : List Int32} {x : Int32} (h : mMe σ α M) (hl : M.length < 210) {σ' : Nat → Int32} {α' : Nat → Nat → Int32} (e : σ' 10 = nI (M.length + 1)) (e7 : α' 7 = upd (α 7) M.length x) : mMe σ' α' (M ++ [x]) := by
  refine ⟨by simp; omega, by rw [e]; simp, ?_⟩
  rw [e7]
  exact h.2.2.app (by omega)
theorem mMe.app4 {σ : Nat → Int32} {α : Nat → Nat → Int32} {M : List Int32} {a b c d : Int32} (h : mMe σ α M) (hl : M.length + 4 ≤ 210) {σ' : Nat → Int32} {α' : Nat → Nat → Int32} (e : σ' 10 = nI (M.length + 4)) (e7 : α' 7 = upd (upd (upd (upd (α 7) M.length a) (M.length + 1) b) (M.length + 2) c) (M.length + 3) d) : mMe σ' α' (M ++ [a, b, c, d]) := by
  have r1 := h.2.2.app (q := M.length) (x := a) (by omega)
  have r2 := r1.app (q := M.length + 1) (x := b) (by simp)
  have r3 := r2.app (q := M.length + 2) (x := c) (by simp)
  have r4 := r3.app (q := M.length + 3) (x := d) (by simp)
  refine ⟨by simp; omega, by rw [e]; simp, ?_⟩
  rw [e7]
  simpa using r4
set_option maxRecDepth 100000 in
set_option maxHeartbeats 4000000 in
theorem c_Md_fragment_loop {n m : Nat} {ν : Int64} {l : List Int32} {Q : aQ} : ∀ (us : List Int32) (p : Nat) (h : aH) (σ : Nat → Int32) (α : Nat → Nat → Int32) (M : List Int32) (lf : Nat), l.drop p = us → p ≤ l.length → Md h m σ ν α → mRe σ α l → mMe σ α M → M.length + (fz us (p % 16)).length ≤ 210 → lf = (if p % 16 = 0 then us.length else us.length - (16 - p % 16)) → (∀ h' σ' α', Md h' m σ' ν α' → mdO h h' m → mMe σ' α' (M ++ fz us (p % 16)) → sX [10] σ σ' → aX [7] α α' → Q none h') → Tri M_Md_fragment (a_rm 0 0 0) (a_Z 0 0 Q) 12 [(2, .int (nI p)), (1, .int (nI lf)), (0, .ref m)] [] n h 0 0 := by
  intro us
  induction us with
  | nil =>
    intro p h σ α M lf hus hp hM hr hm hl hlf hQ
    have hp2 : p = l.length := Nat.le_antisymm hp (List.drop_eq_nil_iff.mp hus)
    subst hp2
    refine T_iload_n (pc := 12) d_Md_fragment_12 rfl ?_
    refine T_aload_n (pc := 13) d_Md_fragment_13 rfl ?_
    refine T_get (pc := 14) d_Md_fragment_14 sF_Md_87_Md hM.1 rfl ?_
    refine T_icmp_ge (tgt := 143) (pc := 17) d_Md_fragment_17 (by decide) (fun q17 => ?_) (fun q17 => ?_)
    · refine T_vret (pc := 143) d_Md_fragment_143 rfl rfl (Nat.le_refl _) ?_
      exact hQ h σ α hM mdO.rf (by rw [fz, List.append_nil]; exact hm) sX.rf aX.rf
    · exact absurd (by rw [hr.2.1]; exact Int32.le_refl _) q17
  | cons x us ih =>
    intro p h σ α M lf hus hp hM hr hm hl hlf hQ
    have hr210 := hr.1
    have hlen := congrArg List.length hus
    simp at hlen
    have hp2 : p < l.length := by omega
    have hx : l[p]? = some x := by
      have := congrArg (fun l => l[0]?) hus
      simpa using this
    have hus2 : l.drop (p + 1) = us := by
      rw [← List.drop_drop, hus]
      rfl
    have e6 : α 6 (nI p).toNatClampNeg = x := by
      rw [nI_clamp (by omega)]
      have := hr.2.2 p hp2
      rw [hx, Nat.zero_add] at this
      exact (Option.some.inj this).symm
    have em := hm.2.1
    rw [fz] at hl hQ
    simp at hl
    refine T_iload_n (pc := 12) d_Md_fragment_12 rfl ?_
    refine T_aload_n (pc := 13) d_Md_fragment_13 rfl ?_
    refine T_get (pc := 14) d_Md_fragment_14 sF_Md_87_Md hM.1 rfl ?_
    refine T_icmp_ge (tgt := 143) (pc := 17) d_Md_fragment_17 (by decide) (fun q17 => ?_) (fun q17 => ?_)
    · exact absurd q17 (by rw [hr.2.1]; exact nI_ge hp2 (by omega))
    · refine T_iload_n (pc := 20) d_Md_fragment_20 rfl ?_
      refine T_bipush (v := 16) (pc := 21) d_Md_fragment_21 rfl ?_
      refine T_irem (pc := 23) d_Md_fragment_23 (by decide) ?_
      refine T_top (show nI p - nI p / 16 * 16 = nI (p % 16) from pk_rem (a := p) (d := 16) (by omega) (by decide) (by decide)) ?_
      refine T_if_ne (tgt := 112) (pc := 24) d_Md_fragment_24 (by decide) (fun q24 => ?_) (fun q24 => ?_)
      · refine T_aload_n (pc := 112) d_Md_fragment_112 rfl ?_
        refine T_get (pc := 113) d_Md_fragment_113 sF_Md_29_Md hM.1 rfl ?_
        refine T_aload_n (pc := 116) d_Md_fragment_116 rfl ?_
        refine T_get (pc := 117) d_Md_fragment_117 sF_Md_116_Md hM.1 rfl ?_
        refine T_aload_n (pc := 120) d_Md_fragment_120 rfl ?_
        refine T_get (pc := 121) d_Md_fragment_121 sF_Md_26_Md hM.1 rfl ?_
        refine T_iload_n (pc := 124) d_Md_fragment_124 rfl ?_
        refine T_iald (N := 210) (pc := 125) d_Md_fragment_125 (hM.arr 6) (vp_in_nI (by omega) (by decide)) ?_
        refine T_iast (N := 210) (pc := 126) d_Md_fragment_126 (by omega) (hM.arr 7) (by rw [em]; exact vp_in_nI (by omega) (by decide)) (T_up (fun h126x1 g126x1 o126x1 => ?_))
        have M126x1 := hM.ast 7 g126x1 o126x1
        have O126x1 := mdO.o (j := 7) mdO.rf o126x1 (by decide)
        refine T_aload_n (pc := 127) d_Md_fragment_127 rfl ?_
        refine T_dup (pc := 128) d_Md_fragment_128 rfl ?_
        refine T_get (pc := 129) d_Md_fragment_129 sF_Md_116_Md M126x1.1 rfl ?_
        refine T_iconst (v := 1) (pc := 132) d_Md_fragment_132 rfl ?_
        refine T_iadd (pc := 133) d_Md_fragment_133 ?_
        refine T_put (pc := 134) d_Md_fragment_134 sF_Md_116_Md M126x1.1 (Nat.le_of_ble_eq_true rfl) (a_fit_i _) (T_up (fun h134x2 g134x2 o134x2 => ?_))
        have M134x2 := M126x1.put 10 _ g134x2 o134x2 rfl
        have O134x2 := mdO.o (j := 0) O126x1 o134x2 (by decide)
        refine T_iinc (pc := 137) d_Md_fragment_137 rfl (nI_1 p) (Nat.le_of_ble_eq_true rfl) rfl ?_
        refine T_goto (tgt := 12) (pc := 140) d_Md_fragment_140 (by decide) ?_
        have hz : p % 16 ≠ 0 := fun z => q24 (by rw [z]; rfl)
        rw [if_neg hz, List.nil_append] at hQ
        rw [if_neg hz] at hl hlf
        have M9 := M134x2
        rw [e6, em, nI_1, nI_clamp (by omega)] at M9
        have hm9 := hm.app (x := x) (by omega) (σ' := upd σ 10 (nI (M.length + 1))) (α' := va_up α 7 (upd (α 7) M.length x)) pk_us (va_up_self ..)
        refine ih (p + 1) _ _ _ (M ++ [x]) lf hus2 hp2 M9 (hr.same (pk_un (by decide)) (va_up_ne _ _ (by decide))) hm9 ?_ ?_ (fun h' σ' α' k1 k2 k3 k4 k5 => hQ h' σ' α' k1 (mdO.tr O134x2 k2) ?_ ((sX.rf.up (by decide)).tr k4) ((aX.rf.up (by decide)).tr k5))
        · rw [show (p + 1) % 16 = (p % 16 + 1) % 16 by omega]
          simp at hl ⊢
          omega
        · rw [hlf]
          simp only [List.length_cons]
          split <;> omega
        · rw [show (p + 1) % 16 = (p % 16 + 1) % 16 by omega, List.append_assoc] at k3
          exact k3
      · have hz : p % 16 = 0 := (nI_eq (a := p % 16) (b := 0) (by omega) (by decide)).mp q24
        rw [if_pos hz] at hQ hlf
        rw [if_pos hz] at hl
        simp only [List.length_cons] at hlf
        have hl5 : M.length + 5 ≤ 210 := by simp [hdr] at hl; omega
        subst hlf
        refine T_iload_n (pc := 27) d_Md_fragment_27 rfl ?_
        refine T_bipush (v := 16) (pc := 28) d_Md_fragment_28 rfl ?_
        refine T_icmp_ge (tgt := 37) (pc := 30) d_Md_fragment_30 (by decide) (fun q30 => ?_) (fun q30 => ?_)
        · refine T_bipush (v := 16) (pc := 37) d_Md_fragment_37 rfl ?_
          refine T_istore_n (pc := 39) d_Md_fragment_39 rfl (Nat.le_of_ble_eq_true rfl) rfl ?_
          refine T_aload_n (pc := 40) d_Md_fragment_40 rfl ?_
          refine T_get (pc := 41) d_Md_fragment_41 sF_Md_29_Md hM.1 rfl ?_
          refine T_aload_n (pc := 44) d_Md_fragment_44 rfl ?_
          refine T_get (pc := 45) d_Md_fragment_45 sF_Md_116_Md hM.1 rfl ?_
          refine T_iload_n (pc := 48) d_Md_fragment_48 rfl ?_
          refine T_bipush (v := 16) (pc := 49) d_Md_fragment_49 rfl ?_
          refine T_icmp_gt (tgt := 60) (pc := 51) d_Md_fragment_51 (by decide) (fun q51 => ?_) (fun q51 => ?_)
          · refine T_iconst (v := 0) (pc := 60) d_Md_fragment_60 rfl ?_
            refine T_iast (N := 210) (pc := 61) d_Md_fragment_61 (by omega) (hM.arr 7) (by rw [em]; exact vp_in_nI (by omega) (by decide)) (T_up (fun h61x3 g61x3 o61x3 => ?_))
            have M61x3 := hM.ast 7 g61x3 o61x3
            have O61x3 := mdO.o (j := 7) mdO.rf o61x3 (by decide)
            refine T_aload_n (pc := 62) d_Md_fragment_62 rfl ?_
            refine T_get (pc := 63) d_Md_fragment_63 sF_Md_29_Md M61x3.1 rfl ?_
            refine T_aload_n (pc := 66) d_Md_fragment_66 rfl ?_
            refine T_get (pc := 67) d_Md_fragment_67 sF_Md_116_Md M61x3.1 rfl ?_
            refine T_iconst (v := 1) (pc := 70) d_Md_fragment_70 rfl ?_
            refine T_iadd (pc := 71) d_Md_fragment_71 ?_
            refine T_iconst (v := 0) (pc := 72) d_Md_fragment_72 rfl ?_
            refine T_iast (N := 210) (pc := 73) d_Md_fragment_73 (by omega) (M61x3.arr 7) (by rw [em, show nI M.length + 1 = nI (M.length + 1) from nI_add M.length 1]; exact vp_in_nI (by omega) (by decide)) (T_up (fun h73x4 g73x4 o73x4 => ?_))
            have M73x4 := M61x3.ast 7 g73x4 o73x4
            have O73x4 := mdO.o (j := 7) O61x3 o73x4 (by decide)
            refine T_aload_n (pc := 74) d_Md_fragment_74 rfl ?_
            refine T_get (pc := 75) d_Md_fragment_75 sF_Md_29_Md M73x4.1 rfl ?_
            refine T_aload_n (pc := 78) d_Md_fragment_78 rfl ?_
            refine T_get (pc := 79) d_Md_fragment_79 sF_Md_116_Md M73x4.1 rfl ?_
            refine T_iconst (v := 2) (pc := 82) d_Md_fragment_82 rfl ?_
            refine T_iadd (pc := 83) d_Md_fragment_83 ?_
            refine T_iconst (v := 0) (pc := 84) d_Md_fragment_84 rfl ?_
            refine T_iast (N := 210) (pc := 85) d_Md_fragment_85 (by omega) (M73x4.arr 7) (by rw [em, show nI M.length + 2 = nI (M.length + 2) from nI_add M.length 2]; exact vp_in_nI (by omega) (by decide)) (T_up (fun h85x5 g85x5 o85x5 => ?_))
            have M85x5 := M73x4.ast 7 g85x5 o85x5
            have O85x5 := mdO.o (j := 7) O73x4 o85x5 (by decide)
            refine T_aload_n (pc := 86) d_Md_fragment_86 rfl ?_
            refine T_get (pc := 87) d_Md_fragment_87 sF_Md_29_Md M85x5.1 rfl ?_
            refine T_aload_n (pc := 90) d_Md_fragment_90 rfl ?_
            refine T_get (pc := 91) d_Md_fragment_91 sF_Md_116_Md M85x5.1 rfl ?_
            refine T_iconst (v := 3) (pc := 94) d_Md_fragment_94 rfl ?_
            refine T_iadd (pc := 95) d_Md_fragment_95 ?_
            refine T_iload_n (pc := 96) d_Md_fragment_96 rfl ?_
            refine T_iast (N := 210) (pc := 97) d_Md_fragment_97 (by omega) (M85x5.arr 7) (by rw [em, show nI M.length + 3 = nI (M.length + 3) from nI_add M.length 3]; exact vp_in_nI (by omega) (by decide)) (T_up (fun h97x6 g97x6 o97x6 => ?_))
            have M97x6 := M85x5.ast 7 g97x6 o97x6
            have O97x6 := mdO.o (j := 7) O85x5 o97x6 (by decide)
            have M4 := M97x6
            rw [em, show nI M.length + 1 = nI (M.length + 1) from nI_add M.length 1, show nI M.length + 2 = nI (M.length + 2) from nI_add M.length 2, show nI M.length + 3 = nI (M.length + 3) from nI_add M.length 3, nI_clamp (by omega), nI_clamp (by omega), nI_clamp (by omega), nI_clamp (by omega), va_up_self, va_up_self, va_up_self] at M4
            have hA : ∃ α5, Md h97x6 m σ ν α5 ∧ aX [7] α α5 ∧ ∃ a b, hdr (us.length + 1) = [a, 0, 0, b] ∧ α5 7 = upd (upd (upd (upd (α 7) M.length a) (M.length + 1) 0) (M.length + 2) 0) (M.length + 3) b := by
              refine ⟨_, M4, (((aX.rf.up (by decide)).up (by decide)).up (by decide)).up (by decide), _, _, ?_, va_up_self ..⟩
              unfold hdr
              first
                | exact absurd (Int32.le_of_lt q51) q30
                | (have z1 : 16 < us.length + 1 := (nI_ltI (a := 16) (b := us.length + 1) (by decide) (by omega)).mp q51
                   rw [if_neg (by omega), Nat.min_eq_right (by omega)]
                   rfl)
                | (have z1 : ¬ 16 < us.length + 1 := fun z => q51 ((nI_ltI (a := 16) (b := us.length + 1) (by decide) (by omega)).mpr z)
                   have z2 : 16 ≤ us.length + 1 := (nI_leI (a := 16) (b := us.length + 1) (by decide) (by omega)).mp q30
                   rw [if_pos (by omega), Nat.min_eq_right (by omega)]
                   rfl)
                | (have z1 : ¬ 16 < us.length + 1 := fun z => q51 ((nI_ltI (a := 16) (b := us.length + 1) (by decide) (by omega)).mpr z)
                   rw [if_pos (by omega), Nat.min_eq_left (by omega)])
            obtain ⟨α5, M5, a5, xa, xb, hh, e75⟩ := hA
            refine T_aload_n (pc := 98) d_Md_fragment_98 rfl ?_
            refine T_aload_n (pc := 99) d_Md_fragment_99 rfl ?_
            refine T_get (pc := 100) d_Md_fragment_100 sF_Md_116_Md M5.1 rfl ?_
            refine T_iconst (v := 4) (pc := 103) d_Md_fragment_103 rfl ?_
            refine T_iadd (pc := 104) d_Md_fragment_104 ?_
            refine T_put (pc := 105) d_Md_fragment_105 sF_Md_116_Md M5.1 (Nat.le_of_ble_eq_true rfl) (a_fit_i _) (T_up (fun h105x7 g105x7 o105x7 => ?_))
            have M105x7 := M5.put 10 _ g105x7 o105x7 rfl
            have O105x7 := mdO.o (j := 0) O97x6 o105x7 (by decide)
            have M6 := M105x7
            rw [em, show nI M.length + 4 = nI (M.length + 4) from nI_add M.length 4] at M6
            obtain ⟨σ6, e10, M6, s6⟩ : ∃ σ6, σ6 10 = nI (M.length + 4) ∧ Md _ m σ6 ν α5 ∧ sX [10] σ σ6 := ⟨_, pk_us, M6, sX.rf.up (by decide)⟩
            have hm5 : mMe σ6 α5 (M ++ hdr (us.length + 1)) := by
              rw [hh]
              exact hm.app4 (by omega) e10 e75
            refine T_iload_n (pc := 108) d_Md_fragment_108 rfl ?_
            refine T_iload_n (pc := 109) d_Md_fragment_109 rfl ?_
            refine T_isub (pc := 110) d_Md_fragment_110 ?_
            have hsub : ∀ v : Int32, v = nI (min (us.length + 1) 16) → nI (us.length + 1) - v = nI (us.length + 1 - min (us.length + 1) 16) := fun v hv => by rw [hv]; exact pk_sub (Nat.min_le_left _ _)
            refine T_top (hsub _ ?_) ?_
            · first
                | (have z2 : 16 ≤ us.length + 1 := (nI_leI (a := 16) (b := us.length + 1) (by decide) (by omega)).mp q30
                   rw [Nat.min_eq_right (by omega)]
                   rfl)
                | (have z2 : ¬ 16 ≤ us.length + 1 := fun z => q30 ((nI_leI (a := 16) (b := us.length + 1) (by decide) (by omega)).mpr z)
                   rw [Nat.min_eq_left (by omega)])
            refine T_istore_n (pc := 111) d_Md_fragment_111 rfl (Nat.le_of_ble_eq_true rfl) rfl ?_
            refine T_aload_n (pc := 112) d_Md_fragment_112 rfl ?_
            refine T_get (pc := 113) d_Md_fragment_113 sF_Md_29_Md M6.1 rfl ?_
            refine T_aload_n (pc := 116) d_Md_fragment_116 rfl ?_
            refine T_get (pc := 117) d_Md_fragment_117 sF_Md_116_Md M6.1 rfl ?_
            refine T_aload_n (pc := 120) d_Md_fragment_120 rfl ?_
            refine T_get (pc := 121) d_Md_fragment_121 sF_Md_26_Md M6.1 rfl ?_
            refine T_iload_n (pc := 124) d_Md_fragment_124 rfl ?_
            refine T_iald (N := 210) (pc := 125) d_Md_fragment_125 (M6.arr 6) (vp_in_nI (by omega) (by decide)) ?_
            refine T_iast (N := 210) (pc := 126) d_Md_fragment_126 (by omega) (M6.arr 7) (by rw [e10]; exact vp_in_nI (by omega) (by decide)) (T_up (fun h126x8 g126x8 o126x8 => ?_))
            have M126x8 := M6.ast 7 g126x8 o126x8
            have O126x8 := mdO.o (j := 7) O105x7 o126x8 (by decide)
            refine T_aload_n (pc := 127) d_Md_fragment_127 rfl ?_
            refine T_dup (pc := 128) d_Md_fragment_128 rfl ?_
            refine T_get (pc := 129) d_Md_fragment_129 sF_Md_116_Md M126x8.1 rfl ?_
            refine T_iconst (v := 1) (pc := 132) d_Md_fragment_132 rfl ?_
            refine T_iadd (pc := 133) d_Md_fragment_133 ?_
            refine T_put (pc := 134) d_Md_fragment_134 sF_Md_116_Md M126x8.1 (Nat.le_of_ble_eq_true rfl) (a_fit_i _) (T_up (fun h134x9 g134x9 o134x9 => ?_))
            have M134x9 := M126x8.put 10 _ g134x9 o134x9 rfl
            have O134x9 := mdO.o (j := 0) O126x8 o134x9 (by decide)
            refine T_iinc (pc := 137) d_Md_fragment_137 rfl (nI_1 p) (Nat.le_of_ble_eq_true rfl) rfl ?_
            refine T_goto (tgt := 12) (pc := 140) d_Md_fragment_140 (by decide) ?_
            have M9 := M134x9
            rw [e10, nI_1, nI_clamp (by omega), a5 6 (by decide), e6] at M9
            have hl4 : (M ++ hdr (us.length + 1)).length = M.length + 4 := by simp [hdr]
            have hm9 := hm5.app (x := x) (by omega) (σ' := upd σ6 10 (nI (M.length + 4 + 1))) (α' := va_up α5 7 (upd (α5 7) (M.length + 4) x)) (by rw [pk_us, hl4]) (by rw [va_up_self, hl4])
            refine T_loc [0, 1, 3] rfl ?_
            refine ih (p + 1) _ _ _ (M ++ hdr (us.length + 1) ++ [x]) (us.length + 1 - min (us.length + 1) 16) hus2 hp2 M9 (hr.same ((pk_un (by decide)).trans (s6 8 (by decide))) ((va_up_ne _ _ (by decide)).trans (a5 6 (by decide)))) hm9 ?_ ?_ (fun h' σ' α' k1 k2 k3 k4 k5 => hQ h' σ' α' k1 (mdO.tr O134x9 k2) ?_ ((s6.up (by decide)).tr k4) ((a5.up (by decide)).tr k5))
            · rw [show (p + 1) % 16 = (p % 16 + 1) % 16 by omega]
              simp [hdr] at hl ⊢
              omega
            · rw [show (p + 1) % 16 = 1 by omega, if_neg (by decide)]
              omega
            · rw [show (p + 1) % 16 = (p % 16 + 1) % 16 by omega] at k3
              simpa using k3
          · refine T_sipush (v := 128) (pc := 54) d_Md_fragment_54 rfl ?_
            refine T_goto (tgt := 61) (pc := 57) d_Md_fragment_57 (by decide) ?_
            refine T_iast (N := 210) (pc := 61) d_Md_fragment_61 (by omega) (hM.arr 7) (by rw [em]; exact vp_in_nI (by omega) (by decide)) (T_up (fun h61x10 g61x10 o61x10 => ?_))
            have M61x10 := hM.ast 7 g61x10 o61x10
            have O61x10 := mdO.o (j := 7) mdO.rf o61x10 (by decide)
            refine T_aload_n (pc := 62) d_Md_fragment_62 rfl ?_
            refine T_get (pc := 63) d_Md_fragment_63 sF_Md_29_Md M61x10.1 rfl ?_
            refine T_aload_n (pc := 66) d_Md_fragment_66 rfl ?_
            refine T_get (pc := 67) d_Md_fragment_67 sF_Md_116_Md M61x10.1 rfl ?_
            refine T_iconst (v := 1) (pc := 70) d_Md_fragment_70 rfl ?_
            refine T_iadd (pc := 71) d_Md_fragment_71 ?_
            refine T_iconst (v := 0) (pc := 72) d_Md_fragment_72 rfl ?_
            refine T_iast (N := 210) (pc := 73) d_Md_fragment_73 (by omega) (M61x10.arr 7) (by rw [em, show nI M.length + 1 = nI (M.length + 1) from nI_add M.length 1]; exact vp_in_nI (by omega) (by decide)) (T_up (fun h73x11 g73x11 o73x11 => ?_))
            have M73x11 := M61x10.ast 7 g73x11 o73x11
            have O73x11 := mdO.o (j := 7) O61x10 o73x11 (by decide)
            refine T_aload_n (pc := 74) d_Md_fragment_74 rfl ?_
            refine T_get (pc := 75) d_Md_fragment_75 sF_Md_29_Md M73x11.1 rfl ?_
            refine T_aload_n (pc := 78) d_Md_fragment_78 rfl ?_
            refine T_get (pc := 79) d_Md_fragment_79 sF_Md_116_Md M73x11.1 rfl ?_
            refine T_iconst (v := 2) (pc := 82) d_Md_fragment_82 rfl ?_
            refine T_iadd (pc := 83) d_Md_fragment_83 ?_
            refine T_iconst (v := 0) (pc := 84) d_Md_fragment_84 rfl ?_
            refine T_iast (N := 210) (pc := 85) d_Md_fragment_85 (by omega) (M73x11.arr 7) (by rw [em, show nI M.length + 2 = nI (M.length + 2) from nI_add M.length 2]; exact vp_in_nI (by omega) (by decide)) (T_up (fun h85x12 g85x12 o85x12 => ?_))
            have M85x12 := M73x11.ast 7 g85x12 o85x12
            have O85x12 := mdO.o (j := 7) O73x11 o85x12 (by decide)
            refine T_aload_n (pc := 86) d_Md_fragment_86 rfl ?_
            refine T_get (pc := 87) d_Md_fragment_87 sF_Md_29_Md M85x12.1 rfl ?_
            refine T_aload_n (pc := 90) d_Md_fragment_90 rfl ?_
            refine T_get (pc := 91) d_Md_fragment_91 sF_Md_116_Md M85x12.1 rfl ?_
            refine T_iconst (v := 3) (pc := 94) d_Md_fragment_94 rfl ?_
            refine T_iadd (pc := 95) d_Md_fragment_95 ?_
            refine T_iload_n (pc := 96) d_Md_fragment_96 rfl ?_
            refine T_iast (N := 210) (pc := 97) d_Md_fragment_97 (by omega) (M85x12.arr 7) (by rw [em, show nI M.length + 3 = nI (M.length + 3) from nI_add M.length 3]; exact vp_in_nI (by omega) (by decide)) (T_up (fun h97x13 g97x13 o97x13 => ?_))
            have M97x13 := M85x12.ast 7 g97x13 o97x13
            have O97x13 := mdO.o (j := 7) O85x12 o97x13 (by decide)
            have M4 := M97x13
            rw [em, show nI M.length + 1 = nI (M.length + 1) from nI_add M.length 1, show nI M.length + 2 = nI (M.length + 2) from nI_add M.length 2, show nI M.length + 3 = nI (M.length + 3) from nI_add M.length 3, nI_clamp (by omega), nI_clamp (by omega), nI_clamp (by omega), nI_clamp (by omega), va_up_self, va_up_self, va_up_self] at M4
            have hA : ∃ α5, Md h97x13 m σ ν α5 ∧ aX [7] α α5 ∧ ∃ a b, hdr (us.length + 1) = [a, 0, 0, b] ∧ α5 7 = upd (upd (upd (upd (α 7) M.length a) (M.length + 1) 0) (M.length + 2) 0) (M.length + 3) b := by
              refine ⟨_, M4, (((aX.rf.up (by decide)).up (by decide)).up (by decide)).up (by decide), _, _, ?_, va_up_self ..⟩
              unfold hdr
              first
                | exact absurd (Int32.le_of_lt q51) q30
                | (have z1 : 16 < us.length + 1 := (nI_ltI (a := 16) (b := us.length + 1) (by decide) (by omega)).mp q51
                   rw [if_neg (by omega), Nat.min_eq_right (by omega)]
                   rfl)
                | (have z1 : ¬ 16 < us.length + 1 := fun z => q51 ((nI_ltI (a := 16) (b := us.length + 1) (by decide) (by omega)).mpr z)
                   have z2 : 16 ≤ us.length + 1 := (nI_leI (a := 16) (b := us.length + 1) (by decide) (by omega)).mp q30
                   rw [if_pos (by omega), Nat.min_eq_right (by omega)]
                   rfl)
                | (have z1 : ¬ 16 < us.length + 1 := fun z => q51 ((nI_ltI (a := 16) (b := us.length + 1) (by decide) (by omega)).mpr z)
                   rw [if_pos (by omega), Nat.min_eq_left (by omega)])
            obtain ⟨α5, M5, a5, xa, xb, hh, e75⟩ := hA
            refine T_aload_n (pc := 98) d_Md_fragment_98 rfl ?_
            refine T_aload_n (pc := 99) d_Md_fragment_99 rfl ?_
            refine T_get (pc := 100) d_Md_fragment_100 sF_Md_116_Md M5.1 rfl ?_
            refine T_iconst (v := 4) (pc := 103) d_Md_fragment_103 rfl ?_
            refine T_iadd (pc := 104) d_Md_fragment_104 ?_
            refine T_put (pc := 105) d_Md_fragment_105 sF_Md_116_Md M5.1 (Nat.le_of_ble_eq_true rfl) (a_fit_i _) (T_up (fun h105x14 g105x14 o105x14 => ?_))
            have M105x14 := M5.put 10 _ g105x14 o105x14 rfl
            have O105x14 := mdO.o (j := 0) O97x13 o105x14 (by decide)
            have M6 := M105x14
            rw [em, show nI M.length + 4 = nI (M.length + 4) from nI_add M.length 4] at M6
            obtain ⟨σ6, e10, M6, s6⟩ : ∃ σ6, σ6 10 = nI (M.length + 4) ∧ Md _ m σ6 ν α5 ∧ sX [10] σ σ6 := ⟨_, pk_us, M6, sX.rf.up (by decide)⟩
            have hm5 : mMe σ6 α5 (M ++ hdr (us.length + 1)) := by
              rw [hh]
              exact hm.app4 (by omega) e10 e75
            refine T_iload_n (pc := 108) d_Md_fragment_108 rfl ?_
            refine T_iload_n (pc := 109) d_Md_fragment_109 rfl ?_
            refine T_isub (pc := 110) d_Md_fragment_110 ?_
            have hsub : ∀ v : Int32, v = nI (min (us.length + 1) 16) → nI (us.length + 1) - v = nI (us.length + 1 - min (us.length + 1) 16) := fun v hv => by rw [hv]; exact pk_sub (Nat.min_le_left _ _)
            refine T_top (hsub _ ?_) ?_
            · first
                | (have z2 : 16 ≤ us.length + 1 := (nI_leI (a := 16) (b := us.length + 1) (by decide) (by omega)).mp q30
                   rw [Nat.min_eq_right (by omega)]
                   rfl)
                | (have z2 : ¬ 16 ≤ us.length + 1 := fun z => q30 ((nI_leI (a := 16) (b := us.length + 1) (by decide) (by omega)).mpr z)
                   rw [Nat.min_eq_left (by omega)])
            refine T_istore_n (pc := 111) d_Md_fragment_111 rfl (Nat.le_of_ble_eq_true rfl) rfl ?_
            refine T_aload_n (pc := 112) d_Md_fragment_112 rfl ?_
            refine T_get (pc := 113) d_Md_fragment_113 sF_Md_29_Md M6.1 rfl ?_
            refine T_aload_n (pc := 116) d_Md_fragment_116 rfl ?_
            refine T_get (pc := 117) d_Md_fragment_117 sF_Md_116_Md M6.1 rfl ?_
            refine T_aload_n (pc := 120) d_Md_fragment_120 rfl ?_
            refine T_get (pc := 121) d_Md_fragment_121 sF_Md_26_Md M6.1 rfl ?_
            refine T_iload_n (pc := 124) d_Md_fragment_124 rfl ?_
            refine T_iald (N := 210) (pc := 125) d_Md_fragment_125 (M6.arr 6) (vp_in_nI (by omega) (by decide)) ?_
            refine T_iast (N := 210) (pc := 126) d_Md_fragment_126 (by omega) (M6.arr 7) (by rw [e10]; exact vp_in_nI (by omega) (by decide)) (T_up (fun h126x15 g126x15 o126x15 => ?_))
            have M126x15 := M6.ast 7 g126x15 o126x15
            have O126x15 := mdO.o (j := 7) O105x14 o126x15 (by decide)
            refine T_aload_n (pc := 127) d_Md_fragment_127 rfl ?_
            refine T_dup (pc := 128) d_Md_fragment_128 rfl ?_
            refine T_get (pc := 129) d_Md_fragment_129 sF_Md_116_Md M126x15.1 rfl ?_
            refine T_iconst (v := 1) (pc := 132) d_Md_fragment_132 rfl ?_
            refine T_iadd (pc := 133) d_Md_fragment_133 ?_
            refine T_put (pc := 134) d_Md_fragment_134 sF_Md_116_Md M126x15.1 (Nat.le_of_ble_eq_true rfl) (a_fit_i _) (T_up (fun h134x16 g134x16 o134x16 => ?_))
            have M134x16 := M126x15.put 10 _ g134x16 o134x16 rfl
            have O134x16 := mdO.o (j := 0) O126x15 o134x16 (by decide)
            refine T_iinc (pc := 137) d_Md_fragment_137 rfl (nI_1 p) (Nat.le_of_ble_eq_true rfl) rfl ?_
            refine T_goto (tgt := 12) (pc := 140) d_Md_fragment_140 (by decide) ?_
            have M9 := M134x16
            rw [e10, nI_1, nI_clamp (by omega), a5 6 (by decide), e6] at M9
            have hl4 : (M ++ hdr (us.length + 1)).length = M.length + 4 := by simp [hdr]
            have hm9 := hm5.app (x := x) (by omega) (σ' := upd σ6 10 (nI (M.length + 4 + 1))) (α' := va_up α5 7 (upd (α5 7) (M.length + 4) x)) (by rw [pk_us, hl4]) (by rw [va_up_self, hl4])
            refine T_loc [0, 1, 3] rfl ?_
            refine ih (p + 1) _ _ _ (M ++ hdr (us.length + 1) ++ [x]) (us.length + 1 - min (us.length + 1) 16) hus2 hp2 M9 (hr.same ((pk_un (by decide)).trans (s6 8 (by decide))) ((va_up_ne _ _ (by decide)).trans (a5 6 (by decide)))) hm9 ?_ ?_ (fun h' σ' α' k1 k2 k3 k4 k5 => hQ h' σ' α' k1 (mdO.tr O134x16 k2) ?_ ((s6.up (by decide)).tr k4) ((a5.up (by decide)).tr k5))
            · rw [show (p + 1) % 16 = (p % 16 + 1) % 16 by omega]
              simp [hdr] at hl ⊢
              omega
            · rw [show (p + 1) % 16 = 1 by omega, if_neg (by decide)]
              omega
            · rw [show (p + 1) % 16 = (p % 16 + 1) % 16 by omega] at k3
              simpa using k3
        · refine T_iload_n (pc := 33) d_Md_fragment_33 rfl ?_
          refine T_goto (tgt := 39) (pc := 34) d_Md_fragment_34 (by decide) ?_
          refine T_istore_n (pc := 39) d_Md_fragment_39 rfl (Nat.le_of_ble_eq_true rfl) rfl ?_
          refine T_aload_n (pc := 40) d_Md_fragment_40 rfl ?_
          refine T_get (pc := 41) d_Md_fragment_41 sF_Md_29_Md hM.1 rfl ?_
          refine T_aload_n (pc := 44) d_Md_fragment_44 rfl ?_
          refine T_get (pc := 45) d_Md_fragment_45 sF_Md_116_Md hM.1 rfl ?_
          refine T_iload_n (pc := 48) d_Md_fragment_48 rfl ?_
          refine T_bipush (v := 16) (pc := 49) d_Md_fragment_49 rfl ?_
          refine T_icmp_gt (tgt := 60) (pc := 51) d_Md_fragment_51 (by decide) (fun q51 => ?_) (fun q51 => ?_)
          · refine T_iconst (v := 0) (pc := 60) d_Md_fragment_60 rfl ?_
            refine T_iast (N := 210) (pc := 61) d_Md_fragment_61 (by omega) (hM.arr 7) (by rw [em]; exact vp_in_nI (by omega) (by decide)) (T_up (fun h61x17 g61x17 o61x17 => ?_))
            have M61x17 := hM.ast 7 g61x17 o61x17
            have O61x17 := mdO.o (j := 7) mdO.rf o61x17 (by decide)
            refine T_aload_n (pc := 62) d_Md_fragment_62 rfl ?_
            refine T_get (pc := 63) d_Md_fragment_63 sF_Md_29_Md M61x17.1 rfl ?_
            refine T_aload_n (pc := 66) d_Md_fragment_66 rfl ?_
            refine T_get (pc := 67) d_Md_fragment_67 sF_Md_116_Md M61x17.1 rfl ?_
            refine T_iconst (v := 1) (pc := 70) d_Md_fragment_70 rfl ?_
            refine T_iadd (pc := 71) d_Md_fragment_71 ?_
            refine T_iconst (v := 0) (pc := 72) d_Md_fragment_72 rfl ?_
            refine T_iast (N := 210) (pc := 73) d_Md_fragment_73 (by omega) (M61x17.arr 7) (by rw [em, show nI M.length + 1 = nI (M.length + 1) from nI_add M.length 1]; exact vp_in_nI (by omega) (by decide)) (T_up (fun h73x18 g73x18 o73x18 => ?_))
            have M73x18 := M61x17.ast 7 g73x18 o73x18
            have O73x18 := mdO.o (j := 7) O61x17 o73x18 (by decide)
            refine T_aload_n (pc := 74) d_Md_fragment_74 rfl ?_
            refine T_get (pc := 75) d_Md_fragment_75 sF_Md_29_Md M73x18.1 rfl ?_
            refine T_aload_n (pc := 78) d_Md_fragment_78 rfl ?_
            refine T_get (pc := 79) d_Md_fragment_79 sF_Md_116_Md M73x18.1 rfl ?_
            refine T_iconst (v := 2) (pc := 82) d_Md_fragment_82 rfl ?_
            refine T_iadd (pc := 83) d_Md_fragment_83 ?_
            refine T_iconst (v := 0) (pc := 84) d_Md_fragment_84 rfl ?_
            refine T_iast (N := 210) (pc := 85) d_Md_fragment_85 (by omega) (M73x18.arr 7) (by rw [em, show nI M.length + 2 = nI (M.length + 2) from nI_add M.length 2]; exact vp_in_nI (by omega) (by decide)) (T_up (fun h85x19 g85x19 o85x19 => ?_))
            have M85x19 := M73x18.ast 7 g85x19 o85x19
            have O85x19 := mdO.o (j := 7) O73x18 o85x19 (by decide)
            refine T_aload_n (pc := 86) d_Md_fragment_86 rfl ?_
            refine T_get (pc := 87) d_Md_fragment_87 sF_Md_29_Md M85x19.1 rfl ?_
            refine T_aload_n (pc := 90) d_Md_fragment_90 rfl ?_
            refine T_get (pc := 91) d_Md_fragment_91 sF_Md_116_Md M85x19.1 rfl ?_
            refine T_iconst (v := 3) (pc := 94) d_Md_fragment_94 rfl ?_
            refine T_iadd (pc := 95) d_Md_fragment_95 ?_
            refine T_iload_n (pc := 96) d_Md_fragment_96 rfl ?_
            refine T_iast (N := 210) (pc := 97) d_Md_fragment_97 (by omega) (M85x19.arr 7) (by rw [em, show nI M.length + 3 = nI (M.length + 3) from nI_add M.length 3]; exact vp_in_nI (by omega) (by decide)) (T_up (fun h97x20 g97x20 o97x20 => ?_))
            have M97x20 := M85x19.ast 7 g97x20 o97x20
            have O97x20 := mdO.o (j := 7) O85x19 o97x20 (by decide)
            have M4 := M97x20
            rw [em, show nI M.length + 1 = nI (M.length + 1) from nI_add M.length 1, show nI M.length + 2 = nI (M.length + 2) from nI_add M.length 2, show nI M.length + 3 = nI (M.length + 3) from nI_add M.length 3, nI_clamp (by omega), nI_clamp (by omega), nI_clamp (by omega), nI_clamp (by omega), va_up_self, va_up_self, va_up_self] at M4
            have hA : ∃ α5, Md h97x20 m σ ν α5 ∧ aX [7] α α5 ∧ ∃ a b, hdr (us.length + 1) = [a, 0, 0, b] ∧ α5 7 = upd (upd (upd (upd (α 7) M.length a) (M.length + 1) 0) (M.length + 2) 0) (M.length + 3) b := by
              refine ⟨_, M4, (((aX.rf.up (by decide)).up (by decide)).up (by decide)).up (by decide), _, _, ?_, va_up_self ..⟩
              unfold hdr
              first
                | exact absurd (Int32.le_of_lt q51) q30
                | (have z1 : 16 < us.length + 1 := (nI_ltI (a := 16) (b := us.length + 1) (by decide) (by omega)).mp q51
                   rw [if_neg (by omega), Nat.min_eq_right (by omega)]
                   rfl)
                | (have z1 : ¬ 16 < us.length + 1 := fun z => q51 ((nI_ltI (a := 16) (b := us.length + 1) (by decide) (by omega)).mpr z)
                   have z2 : 16 ≤ us.length + 1 := (nI_leI (a := 16) (b := us.length + 1) (by decide) (by omega)).mp q30
                   rw [if_pos (by omega), Nat.min_eq_right (by omega)]
                   rfl)
                | (have z1 : ¬ 16 < us.length + 1 := fun z => q51 ((nI_ltI (a := 16) (b := us.length + 1) (by decide) (by omega)).mpr z)
                   rw [if_pos (by omega), Nat.min_eq_left (by omega)])
            obtain ⟨α5, M5, a5, xa, xb, hh, e75⟩ := hA
            refine T_aload_n (pc := 98) d_Md_fragment_98 rfl ?_
            refine T_aload_n (pc := 99) d_Md_fragment_99 rfl ?_
            refine T_get (pc := 100) d_Md_fragment_100 sF_Md_116_Md M5.1 rfl ?_
            refine T_iconst (v := 4) (pc := 103) d_Md_fragment_103 rfl ?_
            refine T_iadd (pc := 104) d_Md_fragment_104 ?_
            refine T_put (pc := 105) d_Md_fragment_105 sF_Md_116_Md M5.1 (Nat.le_of_ble_eq_true rfl) (a_fit_i _) (T_up (fun h105x21 g105x21 o105x21 => ?_))
            have M105x21 := M5.put 10 _ g105x21 o105x21 rfl
            have O105x21 := mdO.o (j := 0) O97x20 o105x21 (by decide)
            have M6 := M105x21
            rw [em, show nI M.length + 4 = nI (M.length + 4) from nI_add M.length 4] at M6
            obtain ⟨σ6, e10, M6, s6⟩ : ∃ σ6, σ6 10 = nI (M.length + 4) ∧ Md _ m σ6 ν α5 ∧ sX [10] σ σ6 := ⟨_, pk_us, M6, sX.rf.up (by decide)⟩
            have hm5 : mMe σ6 α5 (M ++ hdr (us.length + 1)) := by
              rw [hh]
              exact hm.app4 (by omega) e10 e75
            refine T_iload_n (pc := 108) d_Md_fragment_108 rfl ?_
            refine T_iload_n (pc := 109) d_Md_fragment_109 rfl ?_
            refine T_isub (pc := 110) d_Md_fragment_110 ?_
            have hsub : ∀ v : Int32, v = nI (min (us.length + 1) 16) → nI (us.length + 1) - v = nI (us.length + 1 - min (us.length + 1) 16) := fun v hv => by rw [hv]; exact pk_sub (Nat.min_le_left _ _)
            refine T_top (hsub _ ?_) ?_
            · first
                | (have z2 : 16 ≤ us.length + 1 := (nI_leI (a := 16) (b := us.length + 1) (by decide) (by omega)).mp q30
                   rw [Nat.min_eq_right (by omega)]
                   rfl)
                | (have z2 : ¬ 16 ≤ us.length + 1 := fun z => q30 ((nI_leI (a := 16) (b := us.length + 1) (by decide) (by omega)).mpr z)
                   rw [Nat.min_eq_left (by omega)])
            refine T_istore_n (pc := 111) d_Md_fragment_111 rfl (Nat.le_of_ble_eq_true rfl) rfl ?_
            refine T_aload_n (pc := 112) d_Md_fragment_112 rfl ?_
            refine T_get (pc := 113) d_Md_fragment_113 sF_Md_29_Md M6.1 rfl ?_
            refine T_aload_n (pc := 116) d_Md_fragment_116 rfl ?_
            refine T_get (pc := 117) d_Md_fragment_117 sF_Md_116_Md M6.1 rfl ?_
            refine T_aload_n (pc := 120) d_Md_fragment_120 rfl ?_
            refine T_get (pc := 121) d_Md_fragment_121 sF_Md_26_Md M6.1 rfl ?_
            refine T_iload_n (pc := 124) d_Md_fragment_124 rfl ?_
            refine T_iald (N := 210) (pc := 125) d_Md_fragment_125 (M6.arr 6) (vp_in_nI (by omega) (by decide)) ?_
            refine T_iast (N := 210) (pc := 126) d_Md_fragment_126 (by omega) (M6.arr 7) (by rw [e10]; exact vp_in_nI (by omega) (by decide)) (T_up (fun h126x22 g126x22 o126x22 => ?_))
            have M126x22 := M6.ast 7 g126x22 o126x22
            have O126x22 := mdO.o (j := 7) O105x21 o126x22 (by decide)
            refine T_aload_n (pc := 127) d_Md_fragment_127 rfl ?_
            refine T_dup (pc := 128) d_Md_fragment_128 rfl ?_
            refine T_get (pc := 129) d_Md_fragment_129 sF_Md_116_Md M126x22.1 rfl ?_
            refine T_iconst (v := 1) (pc := 132) d_Md_fragment_132 rfl ?_
            refine T_iadd (pc := 133) d_Md_fragment_133 ?_
            refine T_put (pc := 134) d_Md_fragment_134 sF_Md_116_Md M126x22.1 (Nat.le_of_ble_eq_true rfl) (a_fit_i _) (T_up (fun h134x23 g134x23 o134x23 => ?_))
            have M134x23 := M126x22.put 10 _ g134x23 o134x23 rfl
            have O134x23 := mdO.o (j := 0) O126x22 o134x23 (by decide)
            refine T_iinc (pc := 137) d_Md_fragment_137 rfl (nI_1 p) (Nat.le_of_ble_eq_true rfl) rfl ?_
            refine T_goto (tgt := 12) (pc := 140) d_Md_fragment_140 (by decide) ?_
            have M9 := M134x23
            rw [e10, nI_1, nI_clamp (by omega), a5 6 (by decide), e6] at M9
            have hl4 : (M ++ hdr (us.length + 1)).length = M.length + 4 := by simp [hdr]
            have hm9 := hm5.app (x := x) (by omega) (σ' := upd σ6 10 (nI (M.length + 4 + 1))) (α' := va_up α5 7 (upd (α5 7) (M.length + 4) x)) (by rw [pk_us, hl4]) (by rw [va_up_self, hl4])
            refine T_loc [0, 1, 3] rfl ?_
            refine ih (p + 1) _ _ _ (M ++ hdr (us.length + 1) ++ [x]) (us.length + 1 - min (us.length + 1) 16) hus2 hp2 M9 (hr.same ((pk_un (by decide)).trans (s6 8 (by decide))) ((va_up_ne _ _ (by decide)).trans (a5 6 (by decide)))) hm9 ?_ ?_ (fun h' σ' α' k1 k2 k3 k4 k5 => hQ h' σ' α' k1 (mdO.tr O134x23 k2) ?_ ((s6.up (by decide)).tr k4) ((a5.up (by decide)).tr k5))
            · rw [show (p + 1) % 16 = (p % 16 + 1) % 16 by omega]
              simp [hdr] at hl ⊢
              omega
            · rw [show (p + 1) % 16 = 1 by omega, if_neg (by decide)]
              omega
            · rw [show (p + 1) % 16 = (p % 16 + 1) % 16 by omega] at k3
              simpa using k3
          · refine T_sipush (v := 128) (pc := 54) d_Md_fragment_54 rfl ?_
            refine T_goto (tgt := 61) (pc := 57) d_Md_fragment_57 (by decide) ?_
            refine T_iast (N := 210) (pc := 61) d_Md_fragment_61 (by omega) (hM.arr 7) (by rw [em]; exact vp_in_nI (by omega) (by decide)) (T_up (fun h61x24 g61x24 o61x24 => ?_))
            have M61x24 := hM.ast 7 g61x24 o61x24
            have O61x24 := mdO.o (j := 7) mdO.rf o61x24 (by decide)
            refine T_aload_n (pc := 62) d_Md_fragment_62 rfl ?_
            refine T_get (pc := 63) d_Md_fragment_63 sF_Md_29_Md M61x24.1 rfl ?_
            refine T_aload_n (pc := 66) d_Md_fragment_66 rfl ?_
            refine T_get (pc := 67) d_Md_fragment_67 sF_Md_116_Md M61x24.1 rfl ?_
            refine T_iconst (v := 1) (pc := 70) d_Md_fragment_70 rfl ?_
            refine T_iadd (pc := 71) d_Md_fragment_71 ?_
            refine T_iconst (v := 0) (pc := 72) d_Md_fragment_72 rfl ?_
            refine T_iast (N := 210) (pc := 73) d_Md_fragment_73 (by omega) (M61x24.arr 7) (by rw [em, show nI M.length + 1 = nI (M.length + 1) from nI_add M.length 1]; exact vp_in_nI (by omega) (by decide)) (T_up (fun h73x25 g73x25 o73x25 => ?_))
            have M73x25 := M61x24.ast 7 g73x25 o73x25
            have O73x25 := mdO.o (j := 7) O61x24 o73x25 (by decide)
            refine T_aload_n (pc := 74) d_Md_fragment_74 rfl ?_
            refine T_get (pc := 75) d_Md_fragment_75 sF_Md_29_Md M73x25.1 rfl ?_
            refine T_aload_n (pc := 78) d_Md_fragment_78 rfl ?_
            refine T_get (pc := 79) d_Md_fragment_79 sF_Md_116_Md M73x25.1 rfl ?_
            refine T_iconst (v := 2) (pc := 82) d_Md_fragment_82 rfl ?_
            refine T_iadd (pc := 83) d_Md_fragment_83 ?_
            refine T_iconst (v := 0) (pc := 84) d_Md_fragment_84 rfl ?_
            refine T_iast (N := 210) (pc := 85) d_Md_fragment_85 (by omega) (M73x25.arr 7) (by rw [em, show nI M.length + 2 = nI (M.length + 2) from nI_add M.length 2]; exact vp_in_nI (by omega) (by decide)) (T_up (fun h85x26 g85x26 o85x26 => ?_))
            have M85x26 := M73x25.ast 7 g85x26 o85x26
            have O85x26 := mdO.o (j := 7) O73x25 o85x26 (by decide)
            refine T_aload_n (pc := 86) d_Md_fragment_86 rfl ?_
            refine T_get (pc := 87) d_Md_fragment_87 sF_Md_29_Md M85x26.1 rfl ?_
            refine T_aload_n (pc := 90) d_Md_fragment_90 rfl ?_
            refine T_get (pc := 91) d_Md_fragment_91 sF_Md_116_Md M85x26.1 rfl ?_
            refine T_iconst (v := 3) (pc := 94) d_Md_fragment_94 rfl ?_
            refine T_iadd (pc := 95) d_Md_fragment_95 ?_
            refine T_iload_n (pc := 96) d_Md_fragment_96 rfl ?_
            refine T_iast (N := 210) (pc := 97) d_Md_fragment_97 (by omega) (M85x26.arr 7) (by rw [em, show nI M.length + 3 = nI (M.length + 3) from nI_add M.length 3]; exact vp_in_nI (by omega) (by decide)) (T_up (fun h97x27 g97x27 o97x27 => ?_))
            have M97x27 := M85x26.ast 7 g97x27 o97x27
            have O97x27 := mdO.o (j := 7) O85x26 o97x27 (by decide)
            have M4 := M97x27
            rw [em, show nI M.length + 1 = nI (M.length + 1) from nI_add M.length 1, show nI M.length + 2 = nI (M.length + 2) from nI_add M.length 2, show nI M.length + 3 = nI (M.length + 3) from nI_add M.length 3, nI_clamp (by omega), nI_clamp (by omega), nI_clamp (by omega), nI_clamp (by omega), va_up_self, va_up_self, va_up_self] at M4
            have hA : ∃ α5, Md h97x27 m σ ν α5 ∧ aX [7] α α5 ∧ ∃ a b, hdr (us.length + 1) = [a, 0, 0, b] ∧ α5 7 = upd (upd (upd (upd (α 7) M.length a) (M.length + 1) 0) (M.length + 2) 0) (M.length + 3) b := by
              refine ⟨_, M4, (((aX.rf.up (by decide)).up (by decide)).up (by decide)).up (by decide), _, _, ?_, va_up_self ..⟩
              unfold hdr
              first
                | exact absurd (Int32.le_of_lt q51) q30
                | (have z1 : 16 < us.length + 1 := (nI_ltI (a := 16) (b := us.length + 1) (by decide) (by omega)).mp q51
                   rw [if_neg (by omega), Nat.min_eq_right (by omega)]
                   rfl)
                | (have z1 : ¬ 16 < us.length + 1 := fun z => q51 ((nI_ltI (a := 16) (b := us.length + 1) (by decide) (by omega)).mpr z)
                   have z2 : 16 ≤ us.length + 1 := (nI_leI (a := 16) (b := us.length + 1) (by decide) (by omega)).mp q30
                   rw [if_pos (by omega), Nat.min_eq_right (by omega)]
                   rfl)
                | (have z1 : ¬ 16 < us.length + 1 := fun z => q51 ((nI_ltI (a := 16) (b := us.length + 1) (by decide) (by omega)).mpr z)
                   rw [if_pos (by omega), Nat.min_eq_left (by omega)])
            obtain ⟨α5, M5, a5, xa, xb, hh, e75⟩ := hA
            refine T_aload_n (pc := 98) d_Md_fragment_98 rfl ?_
            refine T_aload_n (pc := 99) d_Md_fragment_99 rfl ?_
            refine T_get (pc := 100) d_Md_fragment_100 sF_Md_116_Md M5.1 rfl ?_
            refine T_iconst (v := 4) (pc := 103) d_Md_fragment_103 rfl ?_
            refine T_iadd (pc := 104) d_Md_fragment_104 ?_
            refine T_put (pc := 105) d_Md_fragment_105 sF_Md_116_Md M5.1 (Nat.le_of_ble_eq_true rfl) (a_fit_i _) (T_up (fun h105x28 g105x28 o105x28 => ?_))
            have M105x28 := M5.put 10 _ g105x28 o105x28 rfl
            have O105x28 := mdO.o (j := 0) O97x27 o105x28 (by decide)
            have M6 := M105x28
            rw [em, show nI M.length + 4 = nI (M.length + 4) from nI_add M.length 4] at M6
            obtain ⟨σ6, e10, M6, s6⟩ : ∃ σ6, σ6 10 = nI (M.length + 4) ∧ Md _ m σ6 ν α5 ∧ sX [10] σ σ6 := ⟨_, pk_us, M6, sX.rf.up (by decide)⟩
            have hm5 : mMe σ6 α5 (M ++ hdr (us.length + 1)) := by
              rw [hh]
              exact hm.app4 (by omega) e10 e75
            refine T_iload_n (pc := 108) d_Md_fragment_108 rfl ?_
            refine T_iload_n (pc := 109) d_Md_fragment_109 rfl ?_
            refine T_isub (pc := 110) d_Md_fragment_110 ?_
            have hsub : ∀ v : Int32, v = nI (min (us.length + 1) 16) → nI (us.length + 1) - v = nI (us.length + 1 - min (us.length + 1) 16) := fun v hv => by rw [hv]; exact pk_sub (Nat.min_le_left _ _)
            refine T_top (hsub _ ?_) ?_
            · first
                | (have z2 : 16 ≤ us.length + 1 := (nI_leI (a := 16) (b := us.length + 1) (by decide) (by omega)).mp q30
                   rw [Nat.min_eq_right (by omega)]
                   rfl)
                | (have z2 : ¬ 16 ≤ us.length + 1 := fun z => q30 ((nI_leI (a := 16) (b := us.length + 1) (by decide) (by omega)).mpr z)
                   rw [Nat.min_eq_left (by omega)])
            refine T_istore_n (pc := 111) d_Md_fragment_111 rfl (Nat.le_of_ble_eq_true rfl) rfl ?_
            refine T_aload_n (pc := 112) d_Md_fragment_112 rfl ?_
            refine T_get (pc := 113) d_Md_fragment_113 sF_Md_29_Md M6.1 rfl ?_
            refine T_aload_n (pc := 116) d_Md_fragment_116 rfl ?_
            refine T_get (pc := 117) d_Md_fragment_117 sF_Md_116_Md M6.1 rfl ?_
            refine T_aload_n (pc := 120) d_Md_fragment_120 rfl ?_
            refine T_get (pc := 121) d_Md_fragment_121 sF_Md_26_Md M6.1 rfl ?_
            refine T_iload_n (pc := 124) d_Md_fragment_124 rfl ?_
            refine T_iald (N := 210) (pc := 125) d_Md_fragment_125 (M6.arr 6) (vp_in_nI (by omega) (by decide)) ?_
            refine T_iast (N := 210) (pc := 126) d_Md_fragment_126 (by omega) (M6.arr 7) (by rw [e10]; exact vp_in_nI (by omega) (by decide)) (T_up (fun h126x29 g126x29 o126x29 => ?_))
            have M126x29 := M6.ast 7 g126x29 o126x29
            have O126x29 := mdO.o (j := 7) O105x28 o126x29 (by decide)
            refine T_aload_n (pc := 127) d_Md_fragment_127 rfl ?_
            refine T_dup (pc := 128) d_Md_fragment_128 rfl ?_
            refine T_get (pc := 129) d_Md_fragment_129 sF_Md_116_Md M126x29.1 rfl ?_
            refine T_iconst (v := 1) (pc := 132) d_Md_fragment_132 rfl ?_
            refine T_iadd (pc := 133) d_Md_fragment_133 ?_
            refine T_put (pc := 134) d_Md_fragment_134 sF_Md_116_Md M126x29.1 (Nat.le_of_ble_eq_true rfl) (a_fit_i _) (T_up (fun h134x30 g134x30 o134x30 => ?_))
            have M134x30 := M126x29.put 10 _ g134x30 o134x30 rfl
            have O134x30 := mdO.o (j := 0) O126x29 o134x30 (by decide)
            refine T_iinc (pc := 137) d_Md_fragment_137 rfl (nI_1 p) (Nat.le_of_ble_eq_true rfl) rfl ?_
            refine T_goto (tgt := 12) (pc := 140) d_Md_fragment_140 (by decide) ?_
            have M9 := M134x30
            rw [e10, nI_1, nI_clamp (by omega), a5 6 (by decide), e6] at M9
            have hl4 : (M ++ hdr (us.length + 1)).length = M.length + 4 := by simp [hdr]
            have hm9 := hm5.app (x := x) (by omega) (σ' := upd σ6 10 (nI (M.length + 4 + 1))) (α' := va_up α5 7 (upd (α5 7) (M.length + 4) x)) (by rw [pk_us, hl4]) (by rw [va_up_self, hl4])
            refine T_loc [0, 1, 3] rfl ?_
            refine ih (p + 1) _ _ _ (M ++ hdr (us.length + 1) ++ [x]) (us.length + 1 - min (us.length + 1) 16) hus2 hp2 M9 (hr.same ((pk_un (by decide)).trans (s6 8 (by decide))) ((va_up_ne _ _ (by decide)).trans (a5 6 (by decide)))) hm9 ?_ ?_ (fun h' σ' α' k1 k2 k3 k4 k5 => hQ h' σ' α' k1 (mdO.tr O134x30 k2) ?_ ((s6.up (by decide)).tr k4) ((a5.up (by decide)).tr k5))
            · rw [show (p + 1) % 16 = (p % 16 + 1) % 16 by omega]
              simp [hdr] at hl ⊢
              omega
            · rw [show (p + 1) % 16 = 1 by omega, if_neg (by decide)]
              omega
            · rw [show (p + 1) % 16 = (p % 16 + 1) % 16 by omega] at k3
              simpa using k3
set_option maxRecDepth 100000 in
set_option maxHeartbeats 4000000 in
theorem c_Md_fragment {n m : Nat} {h : aH} {σ : Nat → Int32} {ν : Int64} {α : Nat → Nat → Int32} {l M : List Int32} (hM : Md h m σ ν α) (hr : mRe σ α l) (hl : (wrapL l.length l).length ≤ 210) : Con M_Md_fragment 0 0 0 n [.ref m] h (mQ h m (fun r σ' ν' α' => r = none ∧ ν' = ν ∧ mMe σ' α' (wrapL l.length l) ∧ sX [10] σ σ' ∧ aX [7] α α')) := by
  refine Con.of rfl (Nat.le_of_ble_eq_true rfl) ?_
  refine T_aload_n (pc := 0) d_Md_fragment_0 rfl ?_
  refine T_iconst (v := 0) (pc := 1) d_Md_fragment_1 rfl ?_
  refine T_put (pc := 2) d_Md_fragment_2 sF_Md_116_Md hM.1 (Nat.le_of_ble_eq_true rfl) (a_fit_i _) (T_up (fun h2x1 g2x1 o2x1 => ?_))
  have M2x1 := hM.put 10 _ g2x1 o2x1 rfl
  have O2x1 := mdO.o (j := 0) mdO.rf o2x1 (by decide)
  refine T_aload_n (pc := 5) d_Md_fragment_5 rfl ?_
  refine T_get (pc := 6) d_Md_fragment_6 sF_Md_87_Md M2x1.1 rfl ?_
  refine T_top (show upd σ 10 0 8 = nI l.length from hr.2.1) ?_
  refine T_istore_n (pc := 9) d_Md_fragment_9 rfl (Nat.le_of_ble_eq_true rfl) rfl ?_
  refine T_iconst (v := 0) (pc := 10) d_Md_fragment_10 rfl ?_
  refine T_istore_n (pc := 11) d_Md_fragment_11 rfl (Nat.le_of_ble_eq_true rfl) rfl ?_
  have ew : fz l 0 = wrapL l.length l := fz_wrap _ _ (by omega)
  refine T_loc [0, 1, 2] rfl ?_
  have e1 : Value.int (σ 8) = Value.int (nI l.length) := by rw [hr.2.1]
  refine c_Md_fragment_loop l 0 _ _ α [] l.length List.drop_zero (Nat.zero_le _) M2x1 (hr.same (pk_un (by decide)) rfl) ⟨by simp, pk_us, Rw.nil⟩ (by rw [← ew] at hl; simpa using hl) (by simp) (fun h' σ' α' k1 k2 k3 k4 k5 => ⟨_, _, _, k1, mdO.tr O2x1 k2, rfl, rfl, by rw [← ew]; simpa using k3, (sX.rf.up (by decide)).tr k4, k5⟩)
