/-! OnceWireModel: the other rows copied; sendKept, fieldOf. -/
set_option maxRecDepth 100000 in
set_option maxHeartbeats 4000000 in
theorem c_Md_hand_cp {n m : Nat} {σ : Nat → Int32} {ν : Int64} {R : Room} {Z : aZ} {y : Int32} {l : List Int32}  (hlim : σ 18 = nI l.length) (hd : 0 + l.length ≤ 210) (hs : 0 + l.length ≤ 200) : ∀ (us : List Int32) (i : Nat) (h : aH) (α : Nat → Nat → Int32), l.drop i = us → i ≤ l.length → Md h m σ ν α → Rw (α 11) (0) l → Rw (α 7) (0) (l.take i) → (∀ h' α', Md h' m σ ν α' → mdO h h' m → aX [7] α α' → Rw (α' 7) (0) l → (∀ q, q < 0 ∨ 0 + l.length ≤ q → α' 7 q = α 7 q) → Tri M_Md_hand R Z 28 [(2, .int (nI l.length)), (0, .ref m), (1, .int y)] [] n h' 0 0) → Tri M_Md_hand R Z 2 [(2, .int (nI i)), (0, .ref m), (1, .int y)] [] n h 0 0 := by
  intro us
  induction us with
  | nil =>
    intro i h α hus hi hM h2 h1 hQ
    have hi2 : i = l.length := Nat.le_antisymm hi (List.drop_eq_nil_iff.mp hus)
    subst hi2
    refine T_iload_n (pc := 2) d_Md_hand_2 rfl ?_
    refine T_aload_n (pc := 3) d_Md_hand_3 rfl ?_
    refine T_get (pc := 4) d_Md_hand_4 sF_Md_222_Md hM.1 rfl ?_
    refine T_icmp_ge (tgt := 28) (pc := 7) d_Md_hand_7 (by decide) (fun q7 => ?_) (fun q7 => ?_)
    · exact hQ h α hM mdO.rf aX.rf (by rw [List.take_length] at h1; exact h1) (fun _ _ => rfl)
    · exact absurd (by rw [hlim]; exact Int32.le_refl _) q7
  | cons x us ih =>
    intro i h α hus hi hM h2 h1 hQ
    have hi2 : i < l.length := by
      have := congrArg List.length hus
      simp at this
      omega
    have hx : l[i]? = some x := by
      have := congrArg (fun l => l[0]?) hus
      simpa using this
    have hus2 : l.drop (i + 1) = us := by
      rw [← List.drop_drop, hus]
      rfl
    have hv : α 11 (0 + i) = x := by
      have := h2 i hi2
      rw [hx] at this
      exact (Option.some.inj this).symm
    have eD : nI i = nI (0 + i) := by rw [Nat.zero_add]
    have eS : nI i = nI (0 + i) := by rw [Nat.zero_add]
    refine T_iload_n (pc := 2) d_Md_hand_2 rfl ?_
    refine T_aload_n (pc := 3) d_Md_hand_3 rfl ?_
    refine T_get (pc := 4) d_Md_hand_4 sF_Md_222_Md hM.1 rfl ?_
    refine T_icmp_ge (tgt := 28) (pc := 7) d_Md_hand_7 (by decide) (fun q7 => ?_) (fun q7 => ?_)
    · exact absurd q7 (by rw [hlim]; exact nI_ge hi2 (by omega))
    · refine T_aload_n (pc := 10) d_Md_hand_10 rfl ?_
      refine T_get (pc := 11) d_Md_hand_11 sF_Md_29_Md hM.1 rfl ?_
      refine T_iload_n (pc := 14) d_Md_hand_14 rfl ?_
      refine T_aload_n (pc := 15) d_Md_hand_15 rfl ?_
      refine T_get (pc := 16) d_Md_hand_16 sF_Md_41_Md hM.1 rfl ?_
      refine T_iload_n (pc := 19) d_Md_hand_19 rfl ?_
      refine T_iald (N := 200) (pc := 20) d_Md_hand_20 (hM.arr 11) (by rw [eS]; exact vp_in_nI (by omega) (by decide)) ?_
      refine T_iast (N := 210) (pc := 21) d_Md_hand_21 (by omega) (hM.arr 7) (by rw [eD]; exact vp_in_nI (by omega) (by decide)) (T_up (fun h21x1 g21x1 o21x1 => ?_))
      have M21x1 := hM.ast 7 g21x1 o21x1
      have O21x1 := mdO.o (j := 7) mdO.rf o21x1 (by decide)
      refine T_iinc (pc := 22) d_Md_hand_22 rfl (nI_1 i) (Nat.le_of_ble_eq_true rfl) rfl ?_
      refine T_goto (tgt := 2) (pc := 25) d_Md_hand_25 (by decide) ?_
      have M9 := M21x1
      have hv9 : α 11 (nI i).toNatClampNeg = x := by
        rw [eS, nI_clamp (by omega)]
        exact hv
      rw [hv9, eD, nI_clamp (by omega)] at M9
      have ht : l.take (i + 1) = l.take i ++ [x] := by rw [List.take_add_one, hx]; rfl
      have hti : (l.take i).length = i := by rw [List.length_take]; omega
      exact ih (i + 1) _ _ hus2 hi2 M9 (by rw [va_up_ne _ _ (by decide)]; exact h2) (by rw [va_up_self, ht]; exact h1.app (by rw [hti])) (fun h' α' k1 k2 k3 k4 k5 => hQ h' α' k1 (mdO.tr O21x1 k2) ((aX.rf.up (by decide)).tr k3) k4 (fun q z => (k5 q z).trans (by rw [va_up_self, pk_un (by omega)])))
set_option maxRecDepth 100000 in
set_option maxHeartbeats 4000000 in
theorem c_Md_sendKept_cp {n m : Nat} {σ : Nat → Int32} {ν : Int64} {R : Room} {Z : aZ} {L : Nat} {y : Int32} {l : List Int32}  (hlim : σ 10 = nI l.length) (hd : 0 + l.length ≤ 210) (hs : 160 * L + l.length ≤ 1280) : ∀ (us : List Int32) (i : Nat) (h : aH) (α : Nat → Nat → Int32), l.drop i = us → i ≤ l.length → Md h m σ ν α → Rw (α 18) (160 * L) l → Rw (α 7) (0) (l.take i) → (∀ h' α', Md h' m σ ν α' → mdO h h' m → aX [7] α α' → Rw (α' 7) (0) l → (∀ q, q < 0 ∨ 0 + l.length ≤ q → α' 7 q = α 7 q) → Tri M_Md_sendKept R Z 50 [(3, .int (nI l.length)), (2, .int (nI L)), (0, .ref m), (1, .int y)] [] n h' 0 0) → Tri M_Md_sendKept R Z 18 [(3, .int (nI i)), (2, .int (nI L)), (0, .ref m), (1, .int y)] [] n h 0 0 := by
  intro us
  induction us with
  | nil =>
    intro i h α hus hi hM h2 h1 hQ
    have hi2 : i = l.length := Nat.le_antisymm hi (List.drop_eq_nil_iff.mp hus)
    subst hi2
    refine T_iload_n (pc := 18) d_Md_sendKept_18 rfl ?_
    refine T_aload_n (pc := 19) d_Md_sendKept_19 rfl ?_
    refine T_get (pc := 20) d_Md_sendKept_20 sF_Md_116_Md hM.1 rfl ?_
    refine T_icmp_ge (tgt := 50) (pc := 23) d_Md_sendKept_23 (by decide) (fun q23 => ?_) (fun q23 => ?_)
    · exact hQ h α hM mdO.rf aX.rf (by rw [List.take_length] at h1; exact h1) (fun _ _ => rfl)
    · exact absurd (by rw [hlim]; exact Int32.le_refl _) q23
  | cons x us ih =>
    intro i h α hus hi hM h2 h1 hQ
    have hi2 : i < l.length := by
      have := congrArg List.length hus
      simp at this
      omega
    have hx : l[i]? = some x := by
      have := congrArg (fun l => l[0]?) hus
      simpa using this
    have hus2 : l.drop (i + 1) = us := by
      rw [← List.drop_drop, hus]
      rfl
    have hv : α 18 (160 * L + i) = x := by
      have := h2 i hi2
      rw [hx] at this
      exact (Option.some.inj this).symm
    have eD : nI i = nI (0 + i) := by rw [Nat.zero_add]
    have eS : 160 * nI L + nI i = nI (160 * L + i) := by rw [show (160 : Int32) * nI L = nI (160 * L) from pk_mul 160 L, nI_add]
    refine T_iload_n (pc := 18) d_Md_sendKept_18 rfl ?_
    refine T_aload_n (pc := 19) d_Md_sendKept_19 rfl ?_
    refine T_get (pc := 20) d_Md_sendKept_20 sF_Md_116_Md hM.1 rfl ?_
    refine T_icmp_ge (tgt := 50) (pc := 23) d_Md_sendKept_23 (by decide) (fun q23 => ?_) (fun q23 => ?_)
    · exact absurd q23 (by rw [hlim]; exact nI_ge hi2 (by omega))
    · refine T_aload_n (pc := 26) d_Md_sendKept_26 rfl ?_
      refine T_get (pc := 27) d_Md_sendKept_27 sF_Md_29_Md hM.1 rfl ?_
      refine T_iload_n (pc := 30) d_Md_sendKept_30 rfl ?_
      refine T_aload_n (pc := 31) d_Md_sendKept_31 rfl ?_
      refine T_get (pc := 32) d_Md_sendKept_32 sF_Md_62_Md hM.1 rfl ?_
      refine T_sipush (v := 160) (pc := 35) d_Md_sendKept_35 rfl ?_
      refine T_iload_n (pc := 38) d_Md_sendKept_38 rfl ?_
      refine T_imul (pc := 39) d_Md_sendKept_39 ?_
      refine T_iload_n (pc := 40) d_Md_sendKept_40 rfl ?_
      refine T_iadd (pc := 41) d_Md_sendKept_41 ?_
      refine T_iald (N := 1280) (pc := 42) d_Md_sendKept_42 (hM.arr 18) (by rw [eS]; exact vp_in_nI (by omega) (by decide)) ?_
      refine T_iast (N := 210) (pc := 43) d_Md_sendKept_43 (by omega) (hM.arr 7) (by rw [eD]; exact vp_in_nI (by omega) (by decide)) (T_up (fun h43x1 g43x1 o43x1 => ?_))
      have M43x1 := hM.ast 7 g43x1 o43x1
      have O43x1 := mdO.o (j := 7) mdO.rf o43x1 (by decide)
      refine T_iinc (pc := 44) d_Md_sendKept_44 rfl (nI_1 i) (Nat.le_of_ble_eq_true rfl) rfl ?_
      refine T_goto (tgt := 18) (pc := 47) d_Md_sendKept_47 (by decide) ?_
      have M9 := M43x1
      have hv9 : α 18 (160 * nI L + nI i).toNatClampNeg = x := by
        rw [eS, nI_clamp (by omega)]
        exact hv
      rw [hv9, eD, nI_clamp (by omega)] at M9
      have ht : l.take (i + 1) = l.take i ++ [x] := by rw [List.take_add_one, hx]; rfl
      have hti : (l.take i).length = i := by rw [List.length_take]; omega
      exact ih (i + 1) _ _ hus2 hi2 M9 (by rw [va_up_ne _ _ (by decide)]; exact h2) (by rw [va_up_self, ht]; exact h1.app (by rw [hti])) (fun h' α' k1 k2 k3 k4 k5 => hQ h' α' k1 (mdO.tr O43x1 k2) ((aX.rf.up (by decide)).tr k3) k4 (fun q z => (k5 q z).trans (by rw [va_up_self, pk_un (by omega)])))
set_option maxRecDepth 100000 in
set_option maxHeartbeats 4000000 in
theorem c_Md_call_cp {n m : Nat} {σ : Nat → Int32} {ν : Int64} {R : Room} {Z : aZ} {L : Nat} {y : Int32} {l : List Int32}  (hlim : σ 10 = nI l.length) (hd : 160 * L + l.length ≤ 1280) (hs : 0 + l.length ≤ 210) : ∀ (us : List Int32) (i : Nat) (h : aH) (α : Nat → Nat → Int32), l.drop i = us → i ≤ l.length → Md h m σ ν α → Rw (α 7) (0) l → Rw (α 18) (160 * L) (l.take i) → (∀ h' α', Md h' m σ ν α' → mdO h h' m → aX [18] α α' → Rw (α' 18) (160 * L) l → (∀ q, q < 160 * L ∨ 160 * L + l.length ≤ q → α' 18 q = α 18 q) → Tri M_Md_call R Z 103 [(3, .int (nI l.length)), (2, .int (nI L)), (0, .ref m), (1, .int y)] [] n h' 0 0) → Tri M_Md_call R Z 71 [(3, .int (nI i)), (2, .int (nI L)), (0, .ref m), (1, .int y)] [] n h 0 0 := by
  intro us
  induction us with
  | nil =>
    intro i h α hus hi hM h2 h1 hQ
    have hi2 : i = l.length := Nat.le_antisymm hi (List.drop_eq_nil_iff.mp hus)
    subst hi2
    refine T_iload_n (pc := 71) d_Md_call_71 rfl ?_
    refine T_aload_n (pc := 72) d_Md_call_72 rfl ?_
    refine T_get (pc := 73) d_Md_call_73 sF_Md_116_Md hM.1 rfl ?_
    refine T_icmp_ge (tgt := 103) (pc := 76) d_Md_call_76 (by decide) (fun q76 => ?_) (fun q76 => ?_)
    · exact hQ h α hM mdO.rf aX.rf (by rw [List.take_length] at h1; exact h1) (fun _ _ => rfl)
    · exact absurd (by rw [hlim]; exact Int32.le_refl _) q76
  | cons x us ih =>
    intro i h α hus hi hM h2 h1 hQ
    have hi2 : i < l.length := by
      have := congrArg List.length hus
      simp at this
      omega
    have hx : l[i]? = some x := by
      have := congrArg (fun l => l[0]?) hus
      simpa using this
    have hus2 : l.drop (i + 1) = us := by
      rw [← List.drop_drop, hus]
      rfl
    have hv : α 7 (0 + i) = x := by
      have := h2 i hi2
      rw [hx] at this
      exact (Option.some.inj this).symm
    have eD : 160 * nI L + nI i = nI (160 * L + i) := by rw [show (160 : Int32) * nI L = nI (160 * L) from pk_mul 160 L, nI_add]
    have eS : nI i = nI (0 + i) := by rw [Nat.zero_add]
    refine T_iload_n (pc := 71) d_Md_call_71 rfl ?_
    refine T_aload_n (pc := 72) d_Md_call_72 rfl ?_
    refine T_get (pc := 73) d_Md_call_73 sF_Md_116_Md hM.1 rfl ?_
    refine T_icmp_ge (tgt := 103) (pc := 76) d_Md_call_76 (by decide) (fun q76 => ?_) (fun q76 => ?_)
    · exact absurd q76 (by rw [hlim]; exact nI_ge hi2 (by omega))
    · refine T_aload_n (pc := 79) d_Md_call_79 rfl ?_
      refine T_get (pc := 80) d_Md_call_80 sF_Md_62_Md hM.1 rfl ?_
      refine T_sipush (v := 160) (pc := 83) d_Md_call_83 rfl ?_
      refine T_iload_n (pc := 86) d_Md_call_86 rfl ?_
      refine T_imul (pc := 87) d_Md_call_87 ?_
      refine T_iload_n (pc := 88) d_Md_call_88 rfl ?_
      refine T_iadd (pc := 89) d_Md_call_89 ?_
      refine T_aload_n (pc := 90) d_Md_call_90 rfl ?_
      refine T_get (pc := 91) d_Md_call_91 sF_Md_29_Md hM.1 rfl ?_
      refine T_iload_n (pc := 94) d_Md_call_94 rfl ?_
      refine T_iald (N := 210) (pc := 95) d_Md_call_95 (hM.arr 7) (by rw [eS]; exact vp_in_nI (by omega) (by decide)) ?_
      refine T_iast (N := 1280) (pc := 96) d_Md_call_96 (by omega) (hM.arr 18) (by rw [eD]; exact vp_in_nI (by omega) (by decide)) (T_up (fun h96x1 g96x1 o96x1 => ?_))
      have M96x1 := hM.ast 18 g96x1 o96x1
      have O96x1 := mdO.o (j := 18) mdO.rf o96x1 (by decide)
      refine T_iinc (pc := 97) d_Md_call_97 rfl (nI_1 i) (Nat.le_of_ble_eq_true rfl) rfl ?_
      refine T_goto (tgt := 71) (pc := 100) d_Md_call_100 (by decide) ?_
      have M9 := M96x1
      have hv9 : α 7 (nI i).toNatClampNeg = x := by
        rw [eS, nI_clamp (by omega)]
        exact hv
      rw [hv9, eD, nI_clamp (by omega)] at M9
      have ht : l.take (i + 1) = l.take i ++ [x] := by rw [List.take_add_one, hx]; rfl
      have hti : (l.take i).length = i := by rw [List.length_take]; omega
      exact ih (i + 1) _ _ hus2 hi2 M9 (by rw [va_up_ne _ _ (by decide)]; exact h2) (by rw [va_up_self, ht]; exact h1.app (by rw [hti])) (fun h' α' k1 k2 k3 k4 k5 => hQ h' α' k1 (mdO.tr O96x1 k2) ((aX.rf.up (by decide)).tr k3) k4 (fun q z => (k5 q z).trans (by rw [va_up_self, pk_un (by omega)])))
set_option maxRecDepth 100000 in
set_option maxHeartbeats 4000000 in
theorem c_Md_sendKept {n m : Nat} {h : aH} {σ : Nat → Int32} {ν : Int64} {α : Nat → Nat → Int32} {x : Int32} {g : List Int32} {ms : List Mg} (hM : Md h m σ ν α) (hn : mNe σ α ms) (hg : g.length ≤ 160) (hK : ∀ s, s ≤ 8 → (∀ j, j < s → α 20 j ≠ x) → (s < 8 → α 20 s = x) → s < 8 ∧ α 19 s = nI g.length ∧ Rw (α 18) (160 * s) g) : Con M_Md_sendKept 1 0 0 n [.ref m, .int x] h (mQ h m (fun r σ' ν' α' => r = none ∧ ν' = ν ∧ mNe σ' α' (psh ms (g, true)) ∧ sX [10, 13] σ σ' ∧ aX [7, 8, 9, 10] α α')) := by
  refine Con.of rfl (Nat.le_of_ble_eq_true rfl) ?_
  refine T_aload_n (pc := 0) d_Md_sendKept_0 rfl ?_
  refine T_iload_n (pc := 1) d_Md_sendKept_1 rfl ?_
  refine T_ivV (pc := 2) d_Md_sendKept_2 sI_Md_204 (c_Md_slotOf (x := x) hM) hM.1 rfl rfl ⟨(Nat.le_of_ble_eq_true rfl), (Nat.le_of_ble_eq_true rfl)⟩ ⟨(Nat.le_of_ble_eq_true rfl), (Nat.le_of_ble_eq_true rfl)⟩ (Nat.le_of_ble_eq_true rfl) (fun r1 h1 q1 => ?_)
  obtain ⟨L, rfl, k1, k2, k3, e1⟩ := q1
  rw [e1]
  obtain ⟨hL8, e19, r18⟩ := hK L k1 k2 k3
  refine T_istore_n (pc := 5) d_Md_sendKept_5 rfl (Nat.le_of_ble_eq_true rfl) rfl ?_
  refine T_aload_n (pc := 6) d_Md_sendKept_6 rfl ?_
  refine T_aload_n (pc := 7) d_Md_sendKept_7 rfl ?_
  refine T_get (pc := 8) d_Md_sendKept_8 sF_Md_65_Md hM.1 rfl ?_
  refine T_iload_n (pc := 11) d_Md_sendKept_11 rfl ?_
  refine T_iald (N := 8) (pc := 12) d_Md_sendKept_12 (hM.arr 19) (vp_in_nI hL8 (by decide)) ?_
  refine T_put (pc := 13) d_Md_sendKept_13 sF_Md_116_Md hM.1 (Nat.le_of_ble_eq_true rfl) (a_fit_i _) (T_up (fun h13x1 g13x1 o13x1 => ?_))
  have M13x1 := hM.put 10 _ g13x1 o13x1 rfl
  have O13x1 := mdO.o (j := 0) mdO.rf o13x1 (by decide)
  refine T_iconst (v := 0) (pc := 16) d_Md_sendKept_16 rfl ?_
  refine T_istore_n (pc := 17) d_Md_sendKept_17 rfl (Nat.le_of_ble_eq_true rfl) rfl ?_
  have hlim : (upd σ 10 (α 19 (nI L).toNatClampNeg)) 10 = nI g.length := by rw [pk_us, nI_clamp (by omega)]; exact e19
  refine c_Md_sendKept_cp (L := L) (l := g) hlim (by omega) (by omega) g 0 _ α List.drop_zero (Nat.zero_le _) M13x1 r18 Rw.nil (fun h2 α2 M2 O2 a2 r2 f2 => ?_)
  have hm2 : mMe (upd σ 10 (α 19 (nI L).toNatClampNeg)) α2 g := ⟨by omega, hlim, r2⟩
  have hn2 := hn.same (σ' := upd σ 10 (α 19 (nI L).toNatClampNeg)) (pk_un (by decide)) (a2 8 (by decide)) (a2 9 (by decide)) (a2 10 (by decide))
  refine T_aload_n (pc := 50) d_Md_sendKept_50 rfl ?_
  refine T_iconst (v := 0) (pc := 51) d_Md_sendKept_51 rfl ?_
  refine T_ivV (pc := 52) d_Md_sendKept_52 sI_Md_129 (c_Md_send (b := true) M2 hm2 hn2 hg) M2.1 rfl rfl ⟨(Nat.le_of_ble_eq_true rfl), (Nat.le_of_ble_eq_true rfl)⟩ ⟨(Nat.le_of_ble_eq_true rfl), (Nat.le_of_ble_eq_true rfl)⟩ (Nat.le_of_ble_eq_true rfl) (fun r3 h3 q3 => ?_)
  obtain ⟨σ3, ν3, α3, M3, O3, rfl, rfl, hn3, s3, a3⟩ := q3
  refine T_vret (pc := 55) d_Md_sendKept_55 rfl rfl (Nat.le_refl _) ?_
  exact ⟨_, _, _, M3, (mdO.tr (mdO.tr O13x1 O2) O3), rfl, rfl, hn3, (sX.rf.up (by decide)).tr (sX.mono s3 (by decide)), (aX.mono a2 (by decide)).tr (aX.mono a3 (by decide))⟩
