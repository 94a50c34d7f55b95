/-! OnceWireModel: copy, lose. -/
set_option maxRecDepth 100000 in
set_option maxHeartbeats 4000000 in
theorem c_Md_copy {n m : Nat} {h : aH} {σ : Nat → Int32} {ν : Int64} {α : Nat → Nat → Int32} {k : Int32} {ms : List Mg} (hM : Md h m σ ν α) (hn : mNe σ α ms) : Con M_Md_copy 1 0 0 n [.ref m, .int k] h (mQ h m (fun r σ' ν' α' => r = some (.int (cpyF ms k).1) ∧ ν' = ν ∧ mNe σ' α' (cpyF ms k).2 ∧ sX [10, 13] σ σ' ∧ aX [7, 8, 9, 10] α α')) := by
  refine Con.of rfl (Nat.le_of_ble_eq_true rfl) ?_
  refine T_aload_n (pc := 0) d_Md_copy_0 rfl ?_
  refine T_iload_n (pc := 1) d_Md_copy_1 rfl ?_
  refine T_ivV (pc := 2) d_Md_copy_2 sI_Md_122 (c_Md_isMessage (k := k) hM) hM.1 rfl rfl ⟨(Nat.le_of_ble_eq_true rfl), (Nat.le_of_ble_eq_true rfl)⟩ ⟨(Nat.le_of_ble_eq_true rfl), (Nat.le_of_ble_eq_true rfl)⟩ (Nat.le_of_ble_eq_true rfl) (fun r1 h1 q1 => ?_)
  obtain ⟨rfl, e1⟩ := q1
  rw [e1]
  refine T_if_eq (tgt := 17) (pc := 5) d_Md_copy_5 (by decide) (fun q5 => ?_) (fun q5 => ?_)
  · refine T_iconst (v := 0) (pc := 17) d_Md_copy_17 rfl ?_
    refine T_zret (pc := 18) d_Md_copy_18 rfl (by decide) rfl (Nat.le_refl _) ?_
    first
      | (have hA : cpyF ms k = (0, ms) := by rw [cpyF, if_neg (fun z => ite_z q5 (by rw [hn.2.1]; exact z.1))]
         rw [hA]
         exact ⟨_, _, _, hM, mdO.rf, rfl, rfl, hn, sX.rf, aX.rf⟩)
      | (have h13 : σ 13 = nI 16 := q14
         have hn16 := hn.1
         rw [hn.2.1] at h13
         have h16 := (nI_eq (a := ms.length) (b := 16) (by omega) (by decide)).mp h13
         have hA : cpyF ms k = (0, ms) := by rw [cpyF, if_neg (fun z => by omega)]
         rw [hA]
         exact ⟨_, _, _, hM, mdO.rf, rfl, rfl, hn, sX.rf, aX.rf⟩)
      | (have hA : cpyF ms (nI i) = (1, ms ++ [g]) := by rw [cpyF, if_pos ⟨hf, hlt⟩, hcl, hgd]
         rw [hA]
         refine ⟨_, _, _, hM, mdO.rf, rfl, rfl, ?_, (sX.mono s2 (by decide)).tr (sX.mono s3 (by decide)), (aX.mono a2 (by decide)).tr (aX.mono a3 (by decide))⟩
         unfold psh at hn3
         rw [if_pos hlt] at hn3
         exact hn3)
  · refine T_aload_n (pc := 8) d_Md_copy_8 rfl ?_
    refine T_get (pc := 9) d_Md_copy_9 sF_Md_119_Md hM.1 rfl ?_
    refine T_bipush (v := 16) (pc := 12) d_Md_copy_12 rfl ?_
    refine T_icmp_ne (tgt := 19) (pc := 14) d_Md_copy_14 (by decide) (fun q14 => ?_) (fun q14 => ?_)
    · have hf := ite_n q5
      rw [hn.2.1] at hf
      have hn16 := hn.1
      obtain ⟨i, hi, rfl⟩ : ∃ i : Nat, i < ms.length ∧ k = nI i := by
        rcases pk_ix k (n := ms.length) (by omega) with q | q | q
        · exact absurd hf.1 (Int32.not_le.mpr q)
        · exact absurd hf.2 (Int32.not_lt.mpr q)
        · exact q
      have hcl : (nI i).toNatClampNeg = i := nI_clamp (by omega)
      obtain ⟨g, hg⟩ : ∃ g, ms[i]? = some g := ⟨_, List.getElem?_eq_getElem hi⟩
      have hgd : ms.getD i ([], false) = g := by rw [List.getD_eq_getElem?_getD, hg]; rfl
      obtain ⟨b1, b2, b3, b4⟩ := hn.2.2 i g hg
      have hlt : ms.length < 16 := by
        rcases Nat.lt_or_ge ms.length 16 with z | z
        · exact z
        · exact absurd (by rw [hn.2.1, show ms.length = 16 by omega]; rfl) q14
      refine T_aload_n (pc := 19) d_Md_copy_19 rfl ?_
      refine T_iload_n (pc := 20) d_Md_copy_20 rfl ?_
      refine T_ivV (pc := 21) d_Md_copy_21 sI_Md_126 (c_Md_load hM hn hg) hM.1 rfl rfl ⟨(Nat.le_of_ble_eq_true rfl), (Nat.le_of_ble_eq_true rfl)⟩ ⟨(Nat.le_of_ble_eq_true rfl), (Nat.le_of_ble_eq_true rfl)⟩ (Nat.le_of_ble_eq_true rfl) (fun r2 h2 q2 => ?_)
      obtain ⟨σ2, ν2, α2, M2, O2, rfl, rfl, hm2, s2, a2⟩ := q2
      have hn2 := hn.same (s2 13 (by decide)) (a2 8 (by decide)) (a2 9 (by decide)) (a2 10 (by decide))
      have e10 : α2 10 (nI i).toNatClampNeg = bI (!g.2) := by rw [a2 10 (by decide), hcl]; exact b3
      refine T_aload_n (pc := 24) d_Md_copy_24 rfl ?_
      refine T_aload_n (pc := 25) d_Md_copy_25 rfl ?_
      refine T_get (pc := 26) d_Md_copy_26 sF_Md_38_Md M2.1 rfl ?_
      refine T_iload_n (pc := 29) d_Md_copy_29 rfl ?_
      refine T_zald (N := 16) (pc := 30) d_Md_copy_30 (M2.arr 10) (vp_in_nI (by omega) (by decide)) ?_
      refine T_top e10 ?_
      refine T_ivV (pc := 31) d_Md_copy_31 sI_Md_129 (c_Md_send (b := g.2) M2 hm2 hn2 b1) M2.1 rfl rfl ⟨(Nat.le_of_ble_eq_true rfl), (Nat.le_of_ble_eq_true rfl)⟩ ⟨(Nat.le_of_ble_eq_true rfl), (Nat.le_of_ble_eq_true rfl)⟩ (Nat.le_of_ble_eq_true rfl) (fun r3 h3 q3 => ?_)
      obtain ⟨σ3, ν3, α3, M3, O3, rfl, rfl, hn3, s3, a3⟩ := q3
      refine T_iconst (v := 1) (pc := 34) d_Md_copy_34 rfl ?_
      refine T_zret (pc := 35) d_Md_copy_35 rfl (by decide) rfl (Nat.le_refl _) ?_
      first
        | (have hA : cpyF ms k = (0, ms) := by rw [cpyF, if_neg (fun z => ite_z q5 (by rw [hn.2.1]; exact z.1))]
           rw [hA]
           exact ⟨_, _, _, hM, mdO.rf, rfl, rfl, hn, sX.rf, aX.rf⟩)
        | (have h13 : σ 13 = nI 16 := q14
           have hn16 := hn.1
           rw [hn.2.1] at h13
           have h16 := (nI_eq (a := ms.length) (b := 16) (by omega) (by decide)).mp h13
           have hA : cpyF ms k = (0, ms) := by rw [cpyF, if_neg (fun z => by omega)]
           rw [hA]
           exact ⟨_, _, _, hM, mdO.rf, rfl, rfl, hn, sX.rf, aX.rf⟩)
        | (have hA : cpyF ms (nI i) = (1, ms ++ [g]) := by rw [cpyF, if_pos ⟨hf, hlt⟩, hcl, hgd]
           rw [hA]
           refine ⟨_, _, _, M3, (mdO.tr (mdO.tr mdO.rf O2) O3), rfl, rfl, ?_, (sX.mono s2 (by decide)).tr (sX.mono s3 (by decide)), (aX.mono a2 (by decide)).tr (aX.mono a3 (by decide))⟩
           unfold psh at hn3
           rw [if_pos hlt] at hn3
           exact hn3)
    · refine T_iconst (v := 0) (pc := 17) d_Md_copy_17 rfl ?_
      refine T_zret (pc := 18) d_Md_copy_18 rfl (by decide) rfl (Nat.le_refl _) ?_
      first
        | (have hA : cpyF ms k = (0, ms) := by rw [cpyF, if_neg (fun z => ite_z q5 (by rw [hn.2.1]; exact z.1))]
           rw [hA]
           exact ⟨_, _, _, hM, mdO.rf, rfl, rfl, hn, sX.rf, aX.rf⟩)
        | (have h13 : σ 13 = nI 16 := q14
           have hn16 := hn.1
           rw [hn.2.1] at h13
           have h16 := (nI_eq (a := ms.length) (b := 16) (by omega) (by decide)).mp h13
           have hA : cpyF ms k = (0, ms) := by rw [cpyF, if_neg (fun z => by omega)]
           rw [hA]
           exact ⟨_, _, _, hM, mdO.rf, rfl, rfl, hn, sX.rf, aX.rf⟩)
        | (have hA : cpyF ms (nI i) = (1, ms ++ [g]) := by rw [cpyF, if_pos ⟨hf, hlt⟩, hcl, hgd]
           rw [hA]
           refine ⟨_, _, _, hM, mdO.rf, rfl, rfl, ?_, (sX.mono s2 (by decide)).tr (sX.mono s3 (by decide)), (aX.mono a2 (by decide)).tr (aX.mono a3 (by decide))⟩
           unfold psh at hn3
           rw [if_pos hlt] at hn3
           exact hn3)
def mAt (α : Nat → Nat → Int32) (i : Nat) (g : Mg) : Prop := g.1.length ≤ 160 ∧ α 9 i = nI g.1.length ∧ α 10 i = bI (!g.2) ∧ Rw (α 8) (160 * i) g.1
set_option maxRecDepth 100000 in
set_option maxHeartbeats 4000000 in
theorem c_Md_lose_in {n m j : Nat} {σ : Nat → Int32} {ν : Int64} {R : Room} {Z : aZ} {y : Int32} {f0 : Nat → Int32} (hj : j < 15) : ∀ (t i : Nat) (h : aH) (α : Nat → Nat → Int32), i + t = 160 → Md h m σ ν α → (∀ q, α 8 q = if 160 * j ≤ q ∧ q < 160 * j + i then f0 (q + 160) else f0 q) → (∀ h' α', Md h' m σ ν α' → mdO h h' m → aX [8] α α' → (∀ q, α' 8 q = if 160 * j ≤ q ∧ q < 160 * j + 160 then f0 (q + 160) else f0 q) → Tri M_Md_lose R Z 73 [(3, .int (nI 160)), (2, .int (nI j)), (0, .ref m), (1, .int y)] [] n h' 0 0) → Tri M_Md_lose R Z 32 [(3, .int (nI i)), (2, .int (nI j)), (0, .ref m), (1, .int y)] [] n h 0 0 := by
  intro t
  induction t with
  | zero =>
    intro i h α hit hM hf hQ
    have hi : i = 160 := by omega
    subst hi
    refine T_iload_n (pc := 32) d_Md_lose_32 rfl ?_
    refine T_sipush (v := 160) (pc := 33) d_Md_lose_33 rfl ?_
    refine T_icmp_ge (tgt := 73) (pc := 36) d_Md_lose_36 (by decide) (fun q36 => ?_) (fun q36 => ?_)
    · exact hQ h α hM mdO.rf aX.rf hf
    · exact absurd (Int32.le_refl _) q36
  | succ t ih =>
    intro i h α hit hM hf hQ
    have eD : (160 : Int32) * nI j + nI i = nI (160 * j + i) := by rw [show (160 : Int32) * nI j = nI (160 * j) from pk_mul 160 j, nI_add]
    have eS : (160 : Int32) * nI j + 160 + nI i = nI (160 * j + 160 + i) := by rw [show (160 : Int32) * nI j = nI (160 * j) from pk_mul 160 j, show nI (160 * j) + 160 = nI (160 * j + 160) from nI_add _ 160, nI_add]
    refine T_iload_n (pc := 32) d_Md_lose_32 rfl ?_
    refine T_sipush (v := 160) (pc := 33) d_Md_lose_33 rfl ?_
    refine T_icmp_ge (tgt := 73) (pc := 36) d_Md_lose_36 (by decide) (fun q36 => ?_) (fun q36 => ?_)
    · exact absurd q36 (nI_ge (b := 160) (by omega) (by decide))
    · refine T_aload_n (pc := 39) d_Md_lose_39 rfl ?_
      refine T_get (pc := 40) d_Md_lose_40 sF_Md_32_Md hM.1 rfl ?_
      refine T_sipush (v := 160) (pc := 43) d_Md_lose_43 rfl ?_
      refine T_iload_n (pc := 46) d_Md_lose_46 rfl ?_
      refine T_imul (pc := 47) d_Md_lose_47 ?_
      refine T_iload_n (pc := 48) d_Md_lose_48 rfl ?_
      refine T_iadd (pc := 49) d_Md_lose_49 ?_
      refine T_aload_n (pc := 50) d_Md_lose_50 rfl ?_
      refine T_get (pc := 51) d_Md_lose_51 sF_Md_32_Md hM.1 rfl ?_
      refine T_sipush (v := 160) (pc := 54) d_Md_lose_54 rfl ?_
      refine T_iload_n (pc := 57) d_Md_lose_57 rfl ?_
      refine T_imul (pc := 58) d_Md_lose_58 ?_
      refine T_sipush (v := 160) (pc := 59) d_Md_lose_59 rfl ?_
      refine T_iadd (pc := 62) d_Md_lose_62 ?_
      refine T_iload_n (pc := 63) d_Md_lose_63 rfl ?_
      refine T_iadd (pc := 64) d_Md_lose_64 ?_
      refine T_iald (N := 2560) (pc := 65) d_Md_lose_65 (hM.arr 8) (by rw [eS]; exact vp_in_nI (by omega) (by decide)) ?_
      refine T_iast (N := 2560) (pc := 66) d_Md_lose_66 (by omega) (hM.arr 8) (by rw [eD]; exact vp_in_nI (by omega) (by decide)) (T_up (fun h66x1 g66x1 o66x1 => ?_))
      have M66x1 := hM.ast 8 g66x1 o66x1
      have O66x1 := mdO.o (j := 8) mdO.rf o66x1 (by decide)
      refine T_iinc (pc := 67) d_Md_lose_67 rfl (nI_1 i) (Nat.le_of_ble_eq_true rfl) rfl ?_
      refine T_goto (tgt := 32) (pc := 70) d_Md_lose_70 (by decide) ?_
      have M9 := M66x1
      rw [eD, eS, nI_clamp (by omega), nI_clamp (by omega)] at M9
      exact ih (i + 1) _ _ (by omega) M9 (fun q => by
        rw [va_up_self]
        by_cases e : q = 160 * j + i
        · subst e
          rw [pk_us, hf, if_neg (by omega), if_pos (by omega), show 160 * j + 160 + i = 160 * j + i + 160 by omega]
        · rw [pk_un e, hf]
          by_cases z : 160 * j ≤ q ∧ q < 160 * j + i
          · rw [if_pos z, if_pos (by omega)]
          · rw [if_neg z, if_neg (by omega)]) (fun h' α' k1 k2 k3 k4 => hQ h' α' k1 (mdO.tr O66x1 k2) ((aX.rf.up (by decide)).tr k3) k4)
set_option maxRecDepth 100000 in
set_option maxHeartbeats 4000000 in
theorem c_Md_lose_out {n m k : Nat} {σ : Nat → Int32} {ν : Int64} {ms : List Mg} {Q : aQ} (hk : k < ms.length) (h16 : ms.length ≤ 16) (hL : σ 13 = nI (ms.length - 1)) : ∀ (t j : Nat) (h : aH) (α : Nat → Nat → Int32), j + t = ms.length - 1 → k ≤ j → Md h m σ ν α → (∀ i g, i < j → (ms.eraseIdx k)[i]? = some g → mAt α i g) → (∀ i g, j < i → ms[i]? = some g → mAt α i g) → (∀ h' α', Md h' m σ ν α' → mdO h h' m → aX [8, 9, 10] α α' → (∀ i g, (ms.eraseIdx k)[i]? = some g → mAt α' i g) → Q (some (.int 1)) h') → Tri M_Md_lose (a_rm 1 0 0) (a_Z 0 0 Q) 22 [(2, .int (nI j)), (0, .ref m), (1, .int (nI k))] [] n h 0 0 := by
  have hel : (ms.eraseIdx k).length = ms.length - 1 := List.length_eraseIdx_of_lt hk
  intro t
  induction t with
  | zero =>
    intro j h α hjt hkj hM h1 h2 hQ
    have hj : j = ms.length - 1 := by omega
    subst hj
    refine T_iload_n (pc := 22) d_Md_lose_22 rfl ?_
    refine T_aload_n (pc := 23) d_Md_lose_23 rfl ?_
    refine T_get (pc := 24) d_Md_lose_24 sF_Md_119_Md hM.1 rfl ?_
    refine T_icmp_ge (tgt := 107) (pc := 27) d_Md_lose_27 (by decide) (fun q27 => ?_) (fun q27 => ?_)
    · refine T_iconst (v := 1) (pc := 107) d_Md_lose_107 rfl ?_
      refine T_zret (pc := 108) d_Md_lose_108 rfl (by decide) rfl (Nat.le_refl _) ?_
      exact hQ h α hM mdO.rf aX.rf (fun i g hg => h1 i g (by have := (List.getElem?_eq_some_iff.mp hg).1; omega) hg)
    · exact absurd (by rw [hL]; exact Int32.le_refl _) q27
  | succ t ih =>
    intro j h α hjt hkj hM h1 h2 hQ
    obtain ⟨g, hg⟩ : ∃ g, ms[j + 1]? = some g := ⟨_, List.getElem?_eq_getElem (by omega)⟩
    obtain ⟨b1, b2, b3, b4⟩ := h2 (j + 1) g (by omega) hg
    have hej : (ms.eraseIdx k)[j]? = some g := by rw [List.getElem?_eraseIdx, if_neg (by omega)]; exact hg
    refine T_iload_n (pc := 22) d_Md_lose_22 rfl ?_
    refine T_aload_n (pc := 23) d_Md_lose_23 rfl ?_
    refine T_get (pc := 24) d_Md_lose_24 sF_Md_119_Md hM.1 rfl ?_
    refine T_icmp_ge (tgt := 107) (pc := 27) d_Md_lose_27 (by decide) (fun q27 => ?_) (fun q27 => ?_)
    · exact absurd q27 (by rw [hL]; exact nI_ge (by omega) (by omega))
    · refine T_iconst (v := 0) (pc := 30) d_Md_lose_30 rfl ?_
      refine T_istore_n (pc := 31) d_Md_lose_31 rfl (Nat.le_of_ble_eq_true rfl) rfl ?_
      refine c_Md_lose_in (j := j) (f0 := α 8) (by omega) 160 0 h α rfl hM (fun q => by rw [if_neg (by omega)]) (fun h1x α1 M1 O1 a1 f1 => ?_)
      refine T_aload_n (pc := 73) d_Md_lose_73 rfl ?_
      refine T_get (pc := 74) d_Md_lose_74 sF_Md_35_Md M1.1 rfl ?_
      refine T_iload_n (pc := 77) d_Md_lose_77 rfl ?_
      refine T_aload_n (pc := 78) d_Md_lose_78 rfl ?_
      refine T_get (pc := 79) d_Md_lose_79 sF_Md_35_Md M1.1 rfl ?_
      refine T_iload_n (pc := 82) d_Md_lose_82 rfl ?_
      refine T_iconst (v := 1) (pc := 83) d_Md_lose_83 rfl ?_
      refine T_iadd (pc := 84) d_Md_lose_84 ?_
      refine T_iald (N := 16) (pc := 85) d_Md_lose_85 (M1.arr 9) (by rw [nI_1]; exact vp_in_nI (by omega) (by decide)) ?_
      refine T_iast (N := 16) (pc := 86) d_Md_lose_86 (by omega) (M1.arr 9) (vp_in_nI (by omega) (by decide)) (T_up (fun h86x1 g86x1 o86x1 => ?_))
      have M86x1 := M1.ast 9 g86x1 o86x1
      have O86x1 := mdO.o (j := 9) O1 o86x1 (by decide)
      refine T_aload_n (pc := 87) d_Md_lose_87 rfl ?_
      refine T_get (pc := 88) d_Md_lose_88 sF_Md_38_Md M86x1.1 rfl ?_
      refine T_iload_n (pc := 91) d_Md_lose_91 rfl ?_
      refine T_aload_n (pc := 92) d_Md_lose_92 rfl ?_
      refine T_get (pc := 93) d_Md_lose_93 sF_Md_38_Md M86x1.1 rfl ?_
      refine T_iload_n (pc := 96) d_Md_lose_96 rfl ?_
      refine T_iconst (v := 1) (pc := 97) d_Md_lose_97 rfl ?_
      refine T_iadd (pc := 98) d_Md_lose_98 ?_
      refine T_zald (N := 16) (pc := 99) d_Md_lose_99 (M86x1.arr 10) (by rw [nI_1]; exact vp_in_nI (by omega) (by decide)) ?_
      refine T_zast (N := 16) (pc := 100) d_Md_lose_100 (M86x1.arr 10) (vp_in_nI (by omega) (by decide)) (T_up (fun h100x2 g100x2 o100x2 => ?_))
      have M100x2 := M86x1.ast 10 g100x2 o100x2
      have O100x2 := mdO.o (j := 10) O86x1 o100x2 (by decide)
      refine T_iinc (pc := 101) d_Md_lose_101 rfl (nI_1 j) (Nat.le_of_ble_eq_true rfl) rfl ?_
      refine T_goto (tgt := 22) (pc := 104) d_Md_lose_104 (by decide) ?_
      have M9 := M100x2
      rw [va_up_ne _ _ (show (10 : Nat) ≠ 9 by decide), a1 9 (by decide), a1 10 (by decide), nI_1, nI_clamp (by omega), nI_clamp (by omega), b2, b3, nar_bI] at M9
      refine T_loc [0, 2, 3] rfl ?_
      refine ih (j + 1) _ _ (by omega) (by omega) M9 (fun i g' hi hg' => ?_) (fun i g' hi hg' => ?_) (fun h' α' k1 k2 k3 k4 => hQ h' α' k1 (mdO.tr O100x2 k2) ((((aX.mono a1 (by decide)).up (by decide)).up (by decide)).tr k3) k4)
      · unfold mAt
        rw [va_up_ne _ _ (show (9 : Nat) ≠ 10 by decide), va_up_self, va_up_self, va_up_ne _ _ (show (8 : Nat) ≠ 10 by decide), va_up_ne _ _ (show (8 : Nat) ≠ 9 by decide)]
        by_cases e : i = j
        · subst e
          rw [hej] at hg'
          cases hg'
          exact ⟨b1, pk_us, pk_us, fun q hq => by
            have := b4 q hq
            rw [this, f1, if_pos (by omega)]
            congr 2
            omega⟩
        · obtain ⟨c1, c2, c3, c4⟩ := h1 i g' (by omega) hg'
          rw [pk_un e, pk_un e]
          exact ⟨c1, c2, c3, c4.same (fun q hq => by rw [f1, if_neg (by omega)])⟩
      · unfold mAt
        rw [va_up_ne _ _ (show (9 : Nat) ≠ 10 by decide), va_up_self, va_up_self, va_up_ne _ _ (show (8 : Nat) ≠ 10 by decide), va_up_ne _ _ (show (8 : Nat) ≠ 9 by decide)]
        obtain ⟨c1, c2, c3, c4⟩ := h2 i g' (by omega) hg'
        rw [pk_un (by omega), pk_un (by omega)]
        exact ⟨c1, c2, c3, c4.same (fun q hq => by rw [f1, if_neg (by omega)])⟩
set_option maxRecDepth 100000 in
set_option maxHeartbeats 4000000 in
theorem c_Md_lose {n m : Nat} {h : aH} {σ : Nat → Int32} {ν : Int64} {α : Nat → Nat → Int32} {k : Int32} {ms : List Mg} (hM : Md h m σ ν α) (hn : mNe σ α ms) : Con M_Md_lose 1 0 0 n [.ref m, .int k] h (mQ h m (fun r σ' ν' α' => r = some (.int (if 0 ≤ k ∧ k < nI ms.length then 1 else 0)) ∧ ν' = ν ∧ mNe σ' α' (if 0 ≤ k ∧ k < nI ms.length then ms.eraseIdx k.toNatClampNeg else ms) ∧ sX [13] σ σ' ∧ aX [8, 9, 10] α α')) := by
  refine Con.of rfl (Nat.le_of_ble_eq_true rfl) ?_
  refine T_aload_n (pc := 0) d_Md_lose_0 rfl ?_
  refine T_iload_n (pc := 1) d_Md_lose_1 rfl ?_
  refine T_ivV (pc := 2) d_Md_lose_2 sI_Md_122 (c_Md_isMessage (k := k) hM) hM.1 rfl rfl ⟨(Nat.le_of_ble_eq_true rfl), (Nat.le_of_ble_eq_true rfl)⟩ ⟨(Nat.le_of_ble_eq_true rfl), (Nat.le_of_ble_eq_true rfl)⟩ (Nat.le_of_ble_eq_true rfl) (fun r1 h1 q1 => ?_)
  obtain ⟨rfl, e1⟩ := q1
  rw [e1]
  refine T_if_ne (tgt := 10) (pc := 5) d_Md_lose_5 (by decide) (fun q5 => ?_) (fun q5 => ?_)
  · have hf := ite_n q5
    rw [hn.2.1] at hf
    have hn16 := hn.1
    obtain ⟨i, hi, rfl⟩ : ∃ i : Nat, i < ms.length ∧ k = nI i := by
      rcases pk_ix k (n := ms.length) (by omega) with q | q | q
      · exact absurd hf.1 (Int32.not_le.mpr q)
      · exact absurd hf.2 (Int32.not_lt.mpr q)
      · exact q
    have hcl : (nI i).toNatClampNeg = i := nI_clamp (by omega)
    obtain ⟨g, hg⟩ : ∃ g, ms[i]? = some g := ⟨_, List.getElem?_eq_getElem hi⟩
    have hgd : ms.getD i ([], false) = g := by rw [List.getD_eq_getElem?_getD, hg]; rfl
    obtain ⟨b1, b2, b3, b4⟩ := hn.2.2 i g hg
    refine T_aload_n (pc := 10) d_Md_lose_10 rfl ?_
    refine T_dup (pc := 11) d_Md_lose_11 rfl ?_
    refine T_get (pc := 12) d_Md_lose_12 sF_Md_119_Md hM.1 rfl ?_
    refine T_iconst (v := 1) (pc := 15) d_Md_lose_15 rfl ?_
    refine T_isub (pc := 16) d_Md_lose_16 ?_
    refine T_put (pc := 17) d_Md_lose_17 sF_Md_119_Md hM.1 (Nat.le_of_ble_eq_true rfl) (a_fit_i _) (T_up (fun h17x1 g17x1 o17x1 => ?_))
    have M17x1 := hM.put 13 _ g17x1 o17x1 rfl
    have O17x1 := mdO.o (j := 0) mdO.rf o17x1 (by decide)
    refine T_iload_n (pc := 20) d_Md_lose_20 rfl ?_
    refine T_istore_n (pc := 21) d_Md_lose_21 rfl (Nat.le_of_ble_eq_true rfl) rfl ?_
    have hm1 : σ 13 - 1 = nI (ms.length - 1) := by rw [hn.2.1]; exact pk_sub (b := 1) (by omega)
    have M9 := M17x1
    rw [hm1] at M9
    refine c_Md_lose_out hi hn16 pk_us (ms.length - 1 - i) i _ α (by omega) (Nat.le_refl _) M9 (fun i' g' hi' hg' => ?_) (fun i' g' _ hg' => hn.2.2 i' g' hg') (fun h' α' k1 k2 k3 k4 => ?_)
    · rw [List.getElem?_eraseIdx, if_pos hi'] at hg'
      exact hn.2.2 i' g' hg'
    · rw [if_pos hf, if_pos hf, hcl]
      have hel : (ms.eraseIdx i).length = ms.length - 1 := List.length_eraseIdx_of_lt hi
      exact ⟨_, _, _, k1, mdO.tr O17x1 k2, rfl, rfl, ⟨by omega, by rw [pk_us, hel], k4⟩, sX.rf.up (by decide), k3⟩
  · refine T_iconst (v := 0) (pc := 8) d_Md_lose_8 rfl ?_
    refine T_zret (pc := 9) d_Md_lose_9 rfl (by decide) rfl (Nat.le_refl _) ?_
    have hneg : ¬ (0 ≤ k ∧ k < nI ms.length) := fun z => ite_z q5 (by rw [hn.2.1]; exact z)
    rw [if_neg hneg, if_neg hneg]
    exact ⟨_, _, _, hM, mdO.rf, rfl, rfl, hn, sX.rf, aX.rf⟩
