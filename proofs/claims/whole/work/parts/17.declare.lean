/-! OnceWire$Schema.declare. -/
theorem ixF_ge (x : Int32) : ∀ (ts : List Sf) (i j : Nat), ixF x ts i = some j → i ≤ j ∧ j < i + ts.length
  | [], i, j, h => by cases h
  | t :: ts, i, j, h => by
    unfold ixF at h
    split at h
    · cases h
      simp
    · have := ixF_ge x ts (i + 1) j h
      simp
      omega
theorem oI_none {o : Option Nat} (h : ∀ j, o = some j → j < 2 ^ 31) : oI o = -1 ↔ o = none := by
  cases o with
  | none => simp [oI]
  | some j =>
    simp only [oI, reduceCtorEq, iff_false]
    intro e
    have h1 := nI_pos (h j rfl)
    rw [e] at h1
    exact h1 (by decide)
set_option maxRecDepth 100000 in
set_option maxHeartbeats 4000000 in
theorem c_Schema_declare {n a : Nat} {h : aH} {x k : Int32} {r : Bool} {ns : List Sf} (hs : Sc h a ns) : Con M_Schema_declare 1 0 0 n [.ref a, .int x, .int k, .int (bI r)] h (fun r' h' => r' = some (.int (dcl ns x k r).1) ∧ Sc h' a (dcl ns x k r).2 ∧ ∀ q, q < a ∨ a + 4 < q → h' q = h q) := by
  have hle := hs.le
  have hix := oI_none (o := ixF x ns 0) (fun j hj => by have := ixF_ge x ns 0 j hj; omega)
  obtain ⟨fn, fk, fe, fr, hS, hN, hK, hE, hR, hl, hf⟩ := id hs
  refine Con.of rfl (Nat.le_of_ble_eq_true rfl) ?_
  refine T_iload_n (pc := 0) d_Schema_declare_0 rfl ?_
  refine T_iconst (v := 1) (pc := 1) d_Schema_declare_1 rfl ?_
  refine T_icmp_lt (tgt := 20) (pc := 2) d_Schema_declare_2 (by decide) (fun q2 => ?_) (fun q2 => ?_)
  · refine T_bipush (v := -4) (pc := 20) d_Schema_declare_20 rfl ?_
    refine T_iret (pc := 22) d_Schema_declare_22 rfl rfl (Nat.le_refl _) ?_
    refine ⟨?_, ?_, fun _ _ => rfl⟩ <;> rw [dcl, if_pos (by first | exact Or.inl q2 | exact Or.inr (Or.inl q8) | exact Or.inr (Or.inr (Or.inl q12)) | exact Or.inr (Or.inr (Or.inr (Int32.not_le.mp q17))))]
    exact hs
  · refine T_iload_n (pc := 5) d_Schema_declare_5 rfl ?_
    refine T_bipush (v := 30) (pc := 6) d_Schema_declare_6 rfl ?_
    refine T_icmp_gt (tgt := 20) (pc := 8) d_Schema_declare_8 (by decide) (fun q8 => ?_) (fun q8 => ?_)
    · refine T_bipush (v := -4) (pc := 20) d_Schema_declare_20 rfl ?_
      refine T_iret (pc := 22) d_Schema_declare_22 rfl rfl (Nat.le_refl _) ?_
      refine ⟨?_, ?_, fun _ _ => rfl⟩ <;> rw [dcl, if_pos (by first | exact Or.inl q2 | exact Or.inr (Or.inl q8) | exact Or.inr (Or.inr (Or.inl q12)) | exact Or.inr (Or.inr (Or.inr (Int32.not_le.mp q17))))]
      exact hs
    · refine T_iload_n (pc := 11) d_Schema_declare_11 rfl ?_
      refine T_if_lt (tgt := 20) (pc := 12) d_Schema_declare_12 (by decide) (fun q12 => ?_) (fun q12 => ?_)
      · refine T_bipush (v := -4) (pc := 20) d_Schema_declare_20 rfl ?_
        refine T_iret (pc := 22) d_Schema_declare_22 rfl rfl (Nat.le_refl _) ?_
        refine ⟨?_, ?_, fun _ _ => rfl⟩ <;> rw [dcl, if_pos (by first | exact Or.inl q2 | exact Or.inr (Or.inl q8) | exact Or.inr (Or.inr (Or.inl q12)) | exact Or.inr (Or.inr (Or.inr (Int32.not_le.mp q17))))]
        exact hs
      · refine T_iload_n (pc := 15) d_Schema_declare_15 rfl ?_
        refine T_iconst (v := 3) (pc := 16) d_Schema_declare_16 rfl ?_
        refine T_icmp_le (tgt := 23) (pc := 17) d_Schema_declare_17 (by decide) (fun q17 => ?_) (fun q17 => ?_)
        · have hrng : ¬ (x < 1 ∨ 30 < x ∨ k < 0 ∨ 3 < k) := by
            rintro (q | q | q | q)
            · exact q2 q
            · exact q8 q
            · exact q12 q
            · exact absurd q17 (Int32.not_le.mpr q)
          refine T_aload_n (pc := 23) d_Schema_declare_23 rfl ?_
          refine T_iload_n (pc := 24) d_Schema_declare_24 rfl ?_
          refine T_ivV (pc := 25) d_Schema_declare_25 sI_Schema_29 (c_Schema_indexOf hs) hs.obj rfl rfl ⟨(Nat.le_of_ble_eq_true rfl), (Nat.le_of_ble_eq_true rfl)⟩ ⟨(Nat.le_of_ble_eq_true rfl), (Nat.le_of_ble_eq_true rfl)⟩ (Nat.le_of_ble_eq_true rfl) (fun r1 h1 q1 => ?_)
          obtain ⟨rfl, e1⟩ := q1
          rw [e1]
          refine T_iconst (v := -1) (pc := 28) d_Schema_declare_28 rfl ?_
          refine T_icmp_eq (tgt := 35) (pc := 29) d_Schema_declare_29 (by decide) (fun q29 => ?_) (fun q29 => ?_)
          · refine T_aload_n (pc := 35) d_Schema_declare_35 rfl ?_
            refine T_get (pc := 36) d_Schema_declare_36 sF_Schema_25_Schema hS rfl ?_
            refine T_iconst (v := 4) (pc := 39) d_Schema_declare_39 rfl ?_
            refine T_icmp_lt (tgt := 46) (pc := 40) d_Schema_declare_40 (by decide) (fun q40 => ?_) (fun q40 => ?_)
            · refine T_aload_n (pc := 46) d_Schema_declare_46 rfl ?_
              refine T_get (pc := 47) d_Schema_declare_47 sF_Schema_11_Schema hS rfl ?_
              refine T_aload_n (pc := 50) d_Schema_declare_50 rfl ?_
              refine T_get (pc := 51) d_Schema_declare_51 sF_Schema_25_Schema hS rfl ?_
              refine T_iload_n (pc := 54) d_Schema_declare_54 rfl ?_
              refine T_iast (pc := 55) d_Schema_declare_55 (Nat.succ_ne_zero _) hN (vp_in_nI ((nI_ltI (b := 4) (by omega) (by decide)).mp q40) (by decide)) (T_up (fun h55x1 g55x1 o55x1 => ?_))
              have hS_55x1 := (o55x1 a (by omega)).trans hS
              have hK_55x1 := (o55x1 (a + 2) (by omega)).trans hK
              have hE_55x1 := (o55x1 (a + 3) (by omega)).trans hE
              have hR_55x1 := (o55x1 (a + 4) (by omega)).trans hR
              refine T_aload_n (pc := 56) d_Schema_declare_56 rfl ?_
              refine T_get (pc := 57) d_Schema_declare_57 sF_Schema_15_Schema hS_55x1 rfl ?_
              refine T_aload_n (pc := 60) d_Schema_declare_60 rfl ?_
              refine T_get (pc := 61) d_Schema_declare_61 sF_Schema_25_Schema hS_55x1 rfl ?_
              refine T_iload_n (pc := 64) d_Schema_declare_64 rfl ?_
              refine T_iast (pc := 65) d_Schema_declare_65 (Nat.succ_ne_zero _) hK_55x1 (vp_in_nI ((nI_ltI (b := 4) (by omega) (by decide)).mp q40) (by decide)) (T_up (fun h65x2 g65x2 o65x2 => ?_))
              have hS_65x2 := (o65x2 a (by omega)).trans hS_55x1
              have g55x1_65x2 := (o65x2 (a + 1) (by omega)).trans g55x1
              have hE_65x2 := (o65x2 (a + 3) (by omega)).trans hE_55x1
              have hR_65x2 := (o65x2 (a + 4) (by omega)).trans hR_55x1
              refine T_aload_n (pc := 66) d_Schema_declare_66 rfl ?_
              refine T_get (pc := 67) d_Schema_declare_67 sF_Schema_18_Schema hS_65x2 rfl ?_
              refine T_aload_n (pc := 70) d_Schema_declare_70 rfl ?_
              refine T_get (pc := 71) d_Schema_declare_71 sF_Schema_25_Schema hS_65x2 rfl ?_
              refine T_bipush (v := 8) (pc := 74) d_Schema_declare_74 rfl ?_
              refine T_iload_n (pc := 76) d_Schema_declare_76 rfl ?_
              refine T_imul (pc := 77) d_Schema_declare_77 ?_
              refine T_iload_n (pc := 78) d_Schema_declare_78 rfl ?_
              refine T_iconst (v := 2) (pc := 79) d_Schema_declare_79 rfl ?_
              refine T_icmp_ne (tgt := 87) (pc := 80) d_Schema_declare_80 (by decide) (fun q80 => ?_) (fun q80 => ?_)
              · refine T_iconst (v := 0) (pc := 87) d_Schema_declare_87 rfl ?_
                refine T_iadd (pc := 88) d_Schema_declare_88 ?_
                refine T_iast (pc := 89) d_Schema_declare_89 (Nat.succ_ne_zero _) hE_65x2 (vp_in_nI ((nI_ltI (b := 4) (by omega) (by decide)).mp q40) (by decide)) (T_up (fun h89x3 g89x3 o89x3 => ?_))
                have hS_89x3 := (o89x3 a (by omega)).trans hS_65x2
                have g55x1_89x3 := (o89x3 (a + 1) (by omega)).trans g55x1_65x2
                have g65x2_89x3 := (o89x3 (a + 2) (by omega)).trans g65x2
                have hR_89x3 := (o89x3 (a + 4) (by omega)).trans hR_65x2
                refine T_aload_n (pc := 90) d_Schema_declare_90 rfl ?_
                refine T_get (pc := 91) d_Schema_declare_91 sF_Schema_21_Schema hS_89x3 rfl ?_
                refine T_aload_n (pc := 94) d_Schema_declare_94 rfl ?_
                refine T_get (pc := 95) d_Schema_declare_95 sF_Schema_25_Schema hS_89x3 rfl ?_
                refine T_iload_n (pc := 98) d_Schema_declare_98 rfl ?_
                refine T_zast (pc := 99) d_Schema_declare_99 hR_89x3 (vp_in_nI ((nI_ltI (b := 4) (by omega) (by decide)).mp q40) (by decide)) (T_up (fun h99x4 g99x4 o99x4 => ?_))
                have hS_99x4 := (o99x4 a (by omega)).trans hS_89x3
                have g55x1_99x4 := (o99x4 (a + 1) (by omega)).trans g55x1_89x3
                have g65x2_99x4 := (o99x4 (a + 2) (by omega)).trans g65x2_89x3
                have g89x3_99x4 := (o99x4 (a + 3) (by omega)).trans g89x3
                refine T_aload_n (pc := 100) d_Schema_declare_100 rfl ?_
                refine T_dup (pc := 101) d_Schema_declare_101 rfl ?_
                refine T_get (pc := 102) d_Schema_declare_102 sF_Schema_25_Schema hS_99x4 rfl ?_
                refine T_iconst (v := 1) (pc := 105) d_Schema_declare_105 rfl ?_
                refine T_iadd (pc := 106) d_Schema_declare_106 ?_
                refine T_put (pc := 107) d_Schema_declare_107 sF_Schema_25_Schema hS_99x4 (Nat.le_of_ble_eq_true rfl) (a_fit_i _) (T_up (fun h107x5 g107x5 o107x5 => ?_))
                have g55x1_107x5 := (o107x5 (a + 1) (by omega)).trans g55x1_99x4
                have g65x2_107x5 := (o107x5 (a + 2) (by omega)).trans g65x2_99x4
                have g89x3_107x5 := (o107x5 (a + 3) (by omega)).trans g89x3_99x4
                have g99x4_107x5 := (o107x5 (a + 4) (by omega)).trans g99x4
                refine T_aload_n (pc := 110) d_Schema_declare_110 rfl ?_
                refine T_get (pc := 111) d_Schema_declare_111 sF_Schema_25_Schema g107x5 rfl ?_
                refine T_iconst (v := 1) (pc := 114) d_Schema_declare_114 rfl ?_
                refine T_isub (pc := 115) d_Schema_declare_115 ?_
                refine T_iret (pc := 116) d_Schema_declare_116 rfl rfl (Nat.le_refl _) ?_
                have hix2 := hix.mp q29
                have hlen : ns.length < 4 := (nI_ltI (b := 4) (by omega) (by decide)).mp q40
                have hd : dcl ns x k r = (nI ns.length, ns ++ [(x.toNatClampNeg, k.toNatClampNeg, r)]) := by
                  rw [dcl, if_neg hrng, if_neg (by rw [hix2]; simp), if_neg (by omega)]
                obtain ⟨kx, hkx, rfl⟩ : ∃ j : Nat, j < 31 ∧ x = nI j := by
                  rcases pk_ix x (n := 31) (by decide) with q | q | q
                  · exact absurd (Or.inl (Int32.lt_trans q (by decide))) hrng
                  · exact absurd (Or.inr (Or.inl (show 30 < x from Int32.lt_of_lt_of_le (by decide) q))) hrng
                  · exact q
                obtain ⟨kk, hkk, rfl⟩ : ∃ j : Nat, j < 4 ∧ k = nI j := by
                  rcases pk_ix k (n := 4) (by decide) with q | q | q
                  · exact absurd (Or.inr (Or.inr (Or.inl q))) hrng
                  · exact absurd (Or.inr (Or.inr (Or.inr (show 3 < k from Int32.lt_of_lt_of_le (by decide) q)))) hrng
                  · exact q
                have hx1 : 1 ≤ kx := Nat.pos_of_ne_zero (fun e => hrng (Or.inl (by rw [e]; decide)))
                rw [hd]
                refine ⟨?_, ⟨_, _, _, _, ?_, g55x1_107x5, g65x2_107x5, g89x3_107x5, g99x4_107x5, by rw [List.length_append]; simp; omega, fun i t ht => ?_⟩, fun q hq => ?_⟩
                · show some (Value.int (nI ns.length + 1 - 1)) = _
                  rw [nI_1, nI_pred]
                · rw [g107x5, nI_1, List.length_append]
                  rfl
                · simp only [nI_clamp (show ns.length < 2 ^ 31 by omega), nI_clamp (show kx < 2 ^ 31 by omega), nI_clamp (show kk < 2 ^ 31 by omega)] at ht ⊢
                  by_cases hi : i = ns.length
                  · subst hi
                    rw [List.getElem?_append_right (Nat.le_refl _), Nat.sub_self] at ht
                    cases ht
                    rw [pk_us, pk_us, pk_us, pk_us]
                    refine ⟨rfl, rfl, ?_, ?_, hx1, (show kx ≤ 30 by omega), (show kk ≤ 3 by omega)⟩
                    · have e6 : keyN (kx, kk, r) = 8 * kx + (if kk = 2 then 5 else 0) := rfl
                      rw [e6, show (8 : Int32) * nI kx = nI (8 * kx) from pk_mul 8 kx]
                      by_cases hk2 : kk = 2
                      · rw [if_pos hk2]
                        first
                          | exact nI_add _ 5
                          | exact absurd (by rw [hk2]; rfl) q80
                      · rw [if_neg hk2]
                        first
                          | exact absurd ((nI_eq (a := kk) (b := 2) (by omega) (by decide)).mp q80) hk2
                          | exact nI_add _ 0
                    · rcases bI_01 r with e | e <;> rw [e] <;> rfl
                  · have hi2 : i < ns.length := by
                      have := ge_lt ht
                      simp at this
                      omega
                    rw [List.getElem?_append_left hi2] at ht
                    simp only [pk_un hi]
                    exact hf i t ht
                · rw [o107x5 q (by omega), o99x4 q (by omega), o89x3 q (by omega), o65x2 q (by omega), o55x1 q (by omega)]
              · refine T_iconst (v := 5) (pc := 83) d_Schema_declare_83 rfl ?_
                refine T_goto (tgt := 88) (pc := 84) d_Schema_declare_84 (by decide) ?_
                refine T_iadd (pc := 88) d_Schema_declare_88 ?_
                refine T_iast (pc := 89) d_Schema_declare_89 (Nat.succ_ne_zero _) hE_65x2 (vp_in_nI ((nI_ltI (b := 4) (by omega) (by decide)).mp q40) (by decide)) (T_up (fun h89x6 g89x6 o89x6 => ?_))
                have hS_89x6 := (o89x6 a (by omega)).trans hS_65x2
                have g55x1_89x6 := (o89x6 (a + 1) (by omega)).trans g55x1_65x2
                have g65x2_89x6 := (o89x6 (a + 2) (by omega)).trans g65x2
                have hR_89x6 := (o89x6 (a + 4) (by omega)).trans hR_65x2
                refine T_aload_n (pc := 90) d_Schema_declare_90 rfl ?_
                refine T_get (pc := 91) d_Schema_declare_91 sF_Schema_21_Schema hS_89x6 rfl ?_
                refine T_aload_n (pc := 94) d_Schema_declare_94 rfl ?_
                refine T_get (pc := 95) d_Schema_declare_95 sF_Schema_25_Schema hS_89x6 rfl ?_
                refine T_iload_n (pc := 98) d_Schema_declare_98 rfl ?_
                refine T_zast (pc := 99) d_Schema_declare_99 hR_89x6 (vp_in_nI ((nI_ltI (b := 4) (by omega) (by decide)).mp q40) (by decide)) (T_up (fun h99x7 g99x7 o99x7 => ?_))
                have hS_99x7 := (o99x7 a (by omega)).trans hS_89x6
                have g55x1_99x7 := (o99x7 (a + 1) (by omega)).trans g55x1_89x6
                have g65x2_99x7 := (o99x7 (a + 2) (by omega)).trans g65x2_89x6
                have g89x6_99x7 := (o99x7 (a + 3) (by omega)).trans g89x6
                refine T_aload_n (pc := 100) d_Schema_declare_100 rfl ?_
                refine T_dup (pc := 101) d_Schema_declare_101 rfl ?_
                refine T_get (pc := 102) d_Schema_declare_102 sF_Schema_25_Schema hS_99x7 rfl ?_
                refine T_iconst (v := 1) (pc := 105) d_Schema_declare_105 rfl ?_
                refine T_iadd (pc := 106) d_Schema_declare_106 ?_
                refine T_put (pc := 107) d_Schema_declare_107 sF_Schema_25_Schema hS_99x7 (Nat.le_of_ble_eq_true rfl) (a_fit_i _) (T_up (fun h107x8 g107x8 o107x8 => ?_))
                have g55x1_107x8 := (o107x8 (a + 1) (by omega)).trans g55x1_99x7
                have g65x2_107x8 := (o107x8 (a + 2) (by omega)).trans g65x2_99x7
                have g89x6_107x8 := (o107x8 (a + 3) (by omega)).trans g89x6_99x7
                have g99x7_107x8 := (o107x8 (a + 4) (by omega)).trans g99x7
                refine T_aload_n (pc := 110) d_Schema_declare_110 rfl ?_
                refine T_get (pc := 111) d_Schema_declare_111 sF_Schema_25_Schema g107x8 rfl ?_
                refine T_iconst (v := 1) (pc := 114) d_Schema_declare_114 rfl ?_
                refine T_isub (pc := 115) d_Schema_declare_115 ?_
                refine T_iret (pc := 116) d_Schema_declare_116 rfl rfl (Nat.le_refl _) ?_
                have hix2 := hix.mp q29
                have hlen : ns.length < 4 := (nI_ltI (b := 4) (by omega) (by decide)).mp q40
                have hd : dcl ns x k r = (nI ns.length, ns ++ [(x.toNatClampNeg, k.toNatClampNeg, r)]) := by
                  rw [dcl, if_neg hrng, if_neg (by rw [hix2]; simp), if_neg (by omega)]
                obtain ⟨kx, hkx, rfl⟩ : ∃ j : Nat, j < 31 ∧ x = nI j := by
                  rcases pk_ix x (n := 31) (by decide) with q | q | q
                  · exact absurd (Or.inl (Int32.lt_trans q (by decide))) hrng
                  · exact absurd (Or.inr (Or.inl (show 30 < x from Int32.lt_of_lt_of_le (by decide) q))) hrng
                  · exact q
                obtain ⟨kk, hkk, rfl⟩ : ∃ j : Nat, j < 4 ∧ k = nI j := by
                  rcases pk_ix k (n := 4) (by decide) with q | q | q
                  · exact absurd (Or.inr (Or.inr (Or.inl q))) hrng
                  · exact absurd (Or.inr (Or.inr (Or.inr (show 3 < k from Int32.lt_of_lt_of_le (by decide) q)))) hrng
                  · exact q
                have hx1 : 1 ≤ kx := Nat.pos_of_ne_zero (fun e => hrng (Or.inl (by rw [e]; decide)))
                rw [hd]
                refine ⟨?_, ⟨_, _, _, _, ?_, g55x1_107x8, g65x2_107x8, g89x6_107x8, g99x7_107x8, by rw [List.length_append]; simp; omega, fun i t ht => ?_⟩, fun q hq => ?_⟩
                · show some (Value.int (nI ns.length + 1 - 1)) = _
                  rw [nI_1, nI_pred]
                · rw [g107x8, nI_1, List.length_append]
                  rfl
                · simp only [nI_clamp (show ns.length < 2 ^ 31 by omega), nI_clamp (show kx < 2 ^ 31 by omega), nI_clamp (show kk < 2 ^ 31 by omega)] at ht ⊢
                  by_cases hi : i = ns.length
                  · subst hi
                    rw [List.getElem?_append_right (Nat.le_refl _), Nat.sub_self] at ht
                    cases ht
                    rw [pk_us, pk_us, pk_us, pk_us]
                    refine ⟨rfl, rfl, ?_, ?_, hx1, (show kx ≤ 30 by omega), (show kk ≤ 3 by omega)⟩
                    · have e6 : keyN (kx, kk, r) = 8 * kx + (if kk = 2 then 5 else 0) := rfl
                      rw [e6, show (8 : Int32) * nI kx = nI (8 * kx) from pk_mul 8 kx]
                      by_cases hk2 : kk = 2
                      · rw [if_pos hk2]
                        first
                          | exact nI_add _ 5
                          | exact absurd (by rw [hk2]; rfl) q80
                      · rw [if_neg hk2]
                        first
                          | exact absurd ((nI_eq (a := kk) (b := 2) (by omega) (by decide)).mp q80) hk2
                          | exact nI_add _ 0
                    · rcases bI_01 r with e | e <;> rw [e] <;> rfl
                  · have hi2 : i < ns.length := by
                      have := ge_lt ht
                      simp at this
                      omega
                    rw [List.getElem?_append_left hi2] at ht
                    simp only [pk_un hi]
                    exact hf i t ht
                · rw [o107x8 q (by omega), o99x7 q (by omega), o89x6 q (by omega), o65x2 q (by omega), o55x1 q (by omega)]
            · refine T_bipush (v := -5) (pc := 43) d_Schema_declare_43 rfl ?_
              refine T_iret (pc := 45) d_Schema_declare_45 rfl rfl (Nat.le_refl _) ?_
              refine ⟨?_, ?_, fun _ _ => rfl⟩ <;> rw [dcl, if_neg hrng, if_neg (by rw [hix.mp q29]; simp), if_pos (by have := mt (nI_ltI (a := ns.length) (b := 4) (by omega) (by decide)).mpr q40; omega)]
              exact hs
          · refine T_bipush (v := -4) (pc := 32) d_Schema_declare_32 rfl ?_
            refine T_iret (pc := 34) d_Schema_declare_34 rfl rfl (Nat.le_refl _) ?_
            refine ⟨?_, ?_, fun _ _ => rfl⟩ <;> rw [dcl, if_neg hrng, if_pos (mt hix.mpr q29)]
            exact hs
        · refine T_bipush (v := -4) (pc := 20) d_Schema_declare_20 rfl ?_
          refine T_iret (pc := 22) d_Schema_declare_22 rfl rfl (Nat.le_refl _) ?_
          refine ⟨?_, ?_, fun _ _ => rfl⟩ <;> rw [dcl, if_pos (by first | exact Or.inl q2 | exact Or.inr (Or.inl q8) | exact Or.inr (Or.inr (Or.inl q12)) | exact Or.inr (Or.inr (Or.inr (Int32.not_le.mp q17))))]
          exact hs
