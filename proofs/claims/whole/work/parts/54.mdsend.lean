/-! OnceWireModel: rows copied; send, load. -/
set_option maxRecDepth 100000 in
set_option maxHeartbeats 4000000 in
theorem c_Md_send_cp {n m : Nat} {σ : Nat → Int32} {ν : Int64} {R : Room} {Z : aZ} {L : Nat} {y : Int32} {l : List Int32} (hL : σ 13 = nI L) (hlim : σ 10 = nI l.length) (hd : 160 * L + l.length ≤ 2560) (hs : 0 + l.length ≤ 210) : ∀ (us : List Int32) (i : Nat) (h : aH) (α : Nat → Nat → Int32), l.drop i = us → i ≤ l.length → Md h m σ ν α → Rw (α 7) (0) l → Rw (α 8) (160 * L) (l.take i) → (∀ h' α', Md h' m σ ν α' → mdO h h' m → aX [8] α α' → Rw (α' 8) (160 * L) l → (∀ q, q < 160 * L ∨ 160 * L + l.length ≤ q → α' 8 q = α 8 q) → Tri M_Md_send R Z 47 [(2, .int (nI l.length)), (0, .ref m), (1, .int y)] [] n h' 0 0) → Tri M_Md_send R Z 12 [(2, .int (nI i)), (0, .ref m), (1, .int y)] [] n h 0 0 := by
  intro us
  induction us with
  | nil =>
    intro i h α hus hi hM h2 h1 hQ
    have hi2 : i = l.length := Nat.le_antisymm hi (List.drop_eq_nil_iff.mp hus)
    subst hi2
    refine T_iload_n (pc := 12) d_Md_send_12 rfl ?_
    refine T_aload_n (pc := 13) d_Md_send_13 rfl ?_
    refine T_get (pc := 14) d_Md_send_14 sF_Md_116_Md hM.1 rfl ?_
    refine T_icmp_ge (tgt := 47) (pc := 17) d_Md_send_17 (by decide) (fun q17 => ?_) (fun q17 => ?_)
    · exact hQ h α hM mdO.rf aX.rf (by rw [List.take_length] at h1; exact h1) (fun _ _ => rfl)
    · exact absurd (by rw [hlim]; exact Int32.le_refl _) q17
  | cons x us ih =>
    intro i h α hus hi hM h2 h1 hQ
    have hi2 : i < l.length := by
      have := congrArg List.length hus
      simp at this
      omega
    have hx : l[i]? = some x := by
      have := congrArg (fun l => l[0]?) hus
      simpa using this
    have hus2 : l.drop (i + 1) = us := by
      rw [← List.drop_drop, hus]
      rfl
    have hv : α 7 (0 + i) = x := by
      have := h2 i hi2
      rw [hx] at this
      exact (Option.some.inj this).symm
    have eD : 160 * σ 13 + nI i = nI (160 * L + i) := by rw [hL]; rw [show (160 : Int32) * nI L = nI (160 * L) from pk_mul 160 L, nI_add]
    have eS : nI i = nI (0 + i) := by rw [Nat.zero_add]
    refine T_iload_n (pc := 12) d_Md_send_12 rfl ?_
    refine T_aload_n (pc := 13) d_Md_send_13 rfl ?_
    refine T_get (pc := 14) d_Md_send_14 sF_Md_116_Md hM.1 rfl ?_
    refine T_icmp_ge (tgt := 47) (pc := 17) d_Md_send_17 (by decide) (fun q17 => ?_) (fun q17 => ?_)
    · exact absurd q17 (by rw [hlim]; exact nI_ge hi2 (by omega))
    · refine T_aload_n (pc := 20) d_Md_send_20 rfl ?_
      refine T_get (pc := 21) d_Md_send_21 sF_Md_32_Md hM.1 rfl ?_
      refine T_sipush (v := 160) (pc := 24) d_Md_send_24 rfl ?_
      refine T_aload_n (pc := 27) d_Md_send_27 rfl ?_
      refine T_get (pc := 28) d_Md_send_28 sF_Md_119_Md hM.1 rfl ?_
      refine T_imul (pc := 31) d_Md_send_31 ?_
      refine T_iload_n (pc := 32) d_Md_send_32 rfl ?_
      refine T_iadd (pc := 33) d_Md_send_33 ?_
      refine T_aload_n (pc := 34) d_Md_send_34 rfl ?_
      refine T_get (pc := 35) d_Md_send_35 sF_Md_29_Md hM.1 rfl ?_
      refine T_iload_n (pc := 38) d_Md_send_38 rfl ?_
      refine T_iald (N := 210) (pc := 39) d_Md_send_39 (hM.arr 7) (by rw [eS]; exact vp_in_nI (by omega) (by decide)) ?_
      refine T_iast (N := 2560) (pc := 40) d_Md_send_40 (by omega) (hM.arr 8) (by rw [eD]; exact vp_in_nI (by omega) (by decide)) (T_up (fun h40x1 g40x1 o40x1 => ?_))
      have M40x1 := hM.ast 8 g40x1 o40x1
      have O40x1 := mdO.o (j := 8) mdO.rf o40x1 (by decide)
      refine T_iinc (pc := 41) d_Md_send_41 rfl (nI_1 i) (Nat.le_of_ble_eq_true rfl) rfl ?_
      refine T_goto (tgt := 12) (pc := 44) d_Md_send_44 (by decide) ?_
      have M9 := M40x1
      have hv9 : α 7 (nI i).toNatClampNeg = x := by
        rw [eS, nI_clamp (by omega)]
        exact hv
      rw [hv9, eD, nI_clamp (by omega)] at M9
      have ht : l.take (i + 1) = l.take i ++ [x] := by rw [List.take_add_one, hx]; rfl
      have hti : (l.take i).length = i := by rw [List.length_take]; omega
      exact ih (i + 1) _ _ hus2 hi2 M9 (by rw [va_up_ne _ _ (by decide)]; exact h2) (by rw [va_up_self, ht]; exact h1.app (by rw [hti])) (fun h' α' k1 k2 k3 k4 k5 => hQ h' α' k1 (mdO.tr O40x1 k2) ((aX.rf.up (by decide)).tr k3) k4 (fun q z => (k5 q z).trans (by rw [va_up_self, pk_un (by omega)])))
set_option maxRecDepth 100000 in
set_option maxHeartbeats 4000000 in
theorem c_Md_load_cp {n m : Nat} {σ : Nat → Int32} {ν : Int64} {R : Room} {Z : aZ} {L : Nat} {l : List Int32}  (hlim : σ 10 = nI l.length) (hd : 0 + l.length ≤ 210) (hs : 160 * L + l.length ≤ 2560) : ∀ (us : List Int32) (i : Nat) (h : aH) (α : Nat → Nat → Int32), l.drop i = us → i ≤ l.length → Md h m σ ν α → Rw (α 8) (160 * L) l → Rw (α 7) (0) (l.take i) → (∀ h' α', Md h' m σ ν α' → mdO h h' m → aX [7] α α' → Rw (α' 7) (0) l → (∀ q, q < 0 ∨ 0 + l.length ≤ q → α' 7 q = α 7 q) → Tri M_Md_load R Z 44 [(2, .int (nI l.length)), (0, .ref m), (1, .int (nI L))] [] n h' 0 0) → Tri M_Md_load R Z 12 [(2, .int (nI i)), (0, .ref m), (1, .int (nI L))] [] n h 0 0 := by
  intro us
  induction us with
  | nil =>
    intro i h α hus hi hM h2 h1 hQ
    have hi2 : i = l.length := Nat.le_antisymm hi (List.drop_eq_nil_iff.mp hus)
    subst hi2
    refine T_iload_n (pc := 12) d_Md_load_12 rfl ?_
    refine T_aload_n (pc := 13) d_Md_load_13 rfl ?_
    refine T_get (pc := 14) d_Md_load_14 sF_Md_116_Md hM.1 rfl ?_
    refine T_icmp_ge (tgt := 44) (pc := 17) d_Md_load_17 (by decide) (fun q17 => ?_) (fun q17 => ?_)
    · exact hQ h α hM mdO.rf aX.rf (by rw [List.take_length] at h1; exact h1) (fun _ _ => rfl)
    · exact absurd (by rw [hlim]; exact Int32.le_refl _) q17
  | cons x us ih =>
    intro i h α hus hi hM h2 h1 hQ
    have hi2 : i < l.length := by
      have := congrArg List.length hus
      simp at this
      omega
    have hx : l[i]? = some x := by
      have := congrArg (fun l => l[0]?) hus
      simpa using this
    have hus2 : l.drop (i + 1) = us := by
      rw [← List.drop_drop, hus]
      rfl
    have hv : α 8 (160 * L + i) = x := by
      have := h2 i hi2
      rw [hx] at this
      exact (Option.some.inj this).symm
    have eD : nI i = nI (0 + i) := by rw [Nat.zero_add]
    have eS : 160 * nI L + nI i = nI (160 * L + i) := by rw [show (160 : Int32) * nI L = nI (160 * L) from pk_mul 160 L, nI_add]
    refine T_iload_n (pc := 12) d_Md_load_12 rfl ?_
    refine T_aload_n (pc := 13) d_Md_load_13 rfl ?_
    refine T_get (pc := 14) d_Md_load_14 sF_Md_116_Md hM.1 rfl ?_
    refine T_icmp_ge (tgt := 44) (pc := 17) d_Md_load_17 (by decide) (fun q17 => ?_) (fun q17 => ?_)
    · exact absurd q17 (by rw [hlim]; exact nI_ge hi2 (by omega))
    · refine T_aload_n (pc := 20) d_Md_load_20 rfl ?_
      refine T_get (pc := 21) d_Md_load_21 sF_Md_29_Md hM.1 rfl ?_
      refine T_iload_n (pc := 24) d_Md_load_24 rfl ?_
      refine T_aload_n (pc := 25) d_Md_load_25 rfl ?_
      refine T_get (pc := 26) d_Md_load_26 sF_Md_32_Md hM.1 rfl ?_
      refine T_sipush (v := 160) (pc := 29) d_Md_load_29 rfl ?_
      refine T_iload_n (pc := 32) d_Md_load_32 rfl ?_
      refine T_imul (pc := 33) d_Md_load_33 ?_
      refine T_iload_n (pc := 34) d_Md_load_34 rfl ?_
      refine T_iadd (pc := 35) d_Md_load_35 ?_
      refine T_iald (N := 2560) (pc := 36) d_Md_load_36 (hM.arr 8) (by rw [eS]; exact vp_in_nI (by omega) (by decide)) ?_
      refine T_iast (N := 210) (pc := 37) d_Md_load_37 (by omega) (hM.arr 7) (by rw [eD]; exact vp_in_nI (by omega) (by decide)) (T_up (fun h37x1 g37x1 o37x1 => ?_))
      have M37x1 := hM.ast 7 g37x1 o37x1
      have O37x1 := mdO.o (j := 7) mdO.rf o37x1 (by decide)
      refine T_iinc (pc := 38) d_Md_load_38 rfl (nI_1 i) (Nat.le_of_ble_eq_true rfl) rfl ?_
      refine T_goto (tgt := 12) (pc := 41) d_Md_load_41 (by decide) ?_
      have M9 := M37x1
      have hv9 : α 8 (160 * nI L + nI i).toNatClampNeg = x := by
        rw [eS, nI_clamp (by omega)]
        exact hv
      rw [hv9, eD, nI_clamp (by omega)] at M9
      have ht : l.take (i + 1) = l.take i ++ [x] := by rw [List.take_add_one, hx]; rfl
      have hti : (l.take i).length = i := by rw [List.length_take]; omega
      exact ih (i + 1) _ _ hus2 hi2 M9 (by rw [va_up_ne _ _ (by decide)]; exact h2) (by rw [va_up_self, ht]; exact h1.app (by rw [hti])) (fun h' α' k1 k2 k3 k4 k5 => hQ h' α' k1 (mdO.tr O37x1 k2) ((aX.rf.up (by decide)).tr k3) k4 (fun q z => (k5 q z).trans (by rw [va_up_self, pk_un (by omega)])))
set_option maxRecDepth 100000 in
set_option maxHeartbeats 4000000 in
theorem c_Md_send {n m : Nat} {h : aH} {σ : Nat → Int32} {ν : Int64} {α : Nat → Nat → Int32} {b : Bool} {l : List Int32} {ms : List Mg} (hM : Md h m σ ν α) (hm : mMe σ α l) (hn : mNe σ α ms) (hl : l.length ≤ 160) : Con M_Md_send 0 0 0 n [.ref m, .int (bI (!b))] h (mQ h m (fun r σ' ν' α' => r = none ∧ ν' = ν ∧ mNe σ' α' (psh ms (l, b)) ∧ sX [13] σ σ' ∧ aX [8, 9, 10] α α')) := by
  refine Con.of rfl (Nat.le_of_ble_eq_true rfl) ?_
  refine T_aload_n (pc := 0) d_Md_send_0 rfl ?_
  refine T_get (pc := 1) d_Md_send_1 sF_Md_119_Md hM.1 rfl ?_
  refine T_bipush (v := 16) (pc := 4) d_Md_send_4 rfl ?_
  refine T_icmp_ne (tgt := 10) (pc := 6) d_Md_send_6 (by decide) (fun q6 => ?_) (fun q6 => ?_)
  · refine T_iconst (v := 0) (pc := 10) d_Md_send_10 rfl ?_
    refine T_istore_n (pc := 11) d_Md_send_11 rfl (Nat.le_of_ble_eq_true rfl) rfl ?_
    have hn16 := hn.1
    have hL := hn.2.1
    have hlt : ms.length < 16 := by
      rcases Nat.lt_or_ge ms.length 16 with z | z
      · exact z
      · exact absurd (by rw [hL, show ms.length = 16 by omega]; rfl) q6
    refine c_Md_send_cp (L := ms.length) (l := l) hL hm.2.1 (by omega) (by omega) l 0 h α List.drop_zero (Nat.zero_le _) hM hm.2.2 Rw.nil (fun h1 α1 M1 O1 a1 r1 f1 => ?_)
    refine T_aload_n (pc := 47) d_Md_send_47 rfl ?_
    refine T_get (pc := 48) d_Md_send_48 sF_Md_35_Md M1.1 rfl ?_
    refine T_aload_n (pc := 51) d_Md_send_51 rfl ?_
    refine T_get (pc := 52) d_Md_send_52 sF_Md_119_Md M1.1 rfl ?_
    refine T_aload_n (pc := 55) d_Md_send_55 rfl ?_
    refine T_get (pc := 56) d_Md_send_56 sF_Md_116_Md M1.1 rfl ?_
    refine T_iast (N := 16) (pc := 59) d_Md_send_59 (by omega) (M1.arr 9) (by rw [hL]; exact vp_in_nI hlt (by decide)) (T_up (fun h59x1 g59x1 o59x1 => ?_))
    have M59x1 := M1.ast 9 g59x1 o59x1
    have O59x1 := mdO.o (j := 9) O1 o59x1 (by decide)
    refine T_aload_n (pc := 60) d_Md_send_60 rfl ?_
    refine T_get (pc := 61) d_Md_send_61 sF_Md_38_Md M59x1.1 rfl ?_
    refine T_aload_n (pc := 64) d_Md_send_64 rfl ?_
    refine T_get (pc := 65) d_Md_send_65 sF_Md_119_Md M59x1.1 rfl ?_
    refine T_iload_n (pc := 68) d_Md_send_68 rfl ?_
    refine T_zast (N := 16) (pc := 69) d_Md_send_69 (M59x1.arr 10) (by rw [hL]; exact vp_in_nI hlt (by decide)) (T_up (fun h69x2 g69x2 o69x2 => ?_))
    have M69x2 := M59x1.ast 10 g69x2 o69x2
    have O69x2 := mdO.o (j := 10) O59x1 o69x2 (by decide)
    refine T_aload_n (pc := 70) d_Md_send_70 rfl ?_
    refine T_dup (pc := 71) d_Md_send_71 rfl ?_
    refine T_get (pc := 72) d_Md_send_72 sF_Md_119_Md M69x2.1 rfl ?_
    refine T_iconst (v := 1) (pc := 75) d_Md_send_75 rfl ?_
    refine T_iadd (pc := 76) d_Md_send_76 ?_
    refine T_put (pc := 77) d_Md_send_77 sF_Md_119_Md M69x2.1 (Nat.le_of_ble_eq_true rfl) (a_fit_i _) (T_up (fun h77x3 g77x3 o77x3 => ?_))
    have M77x3 := M69x2.put 13 _ g77x3 o77x3 rfl
    have O77x3 := mdO.o (j := 0) O69x2 o77x3 (by decide)
    refine T_vret (pc := 80) d_Md_send_80 rfl rfl (Nat.le_refl _) ?_
    have M9 := M77x3
    rw [va_up_ne _ _ (show (10 : Nat) ≠ 9 by decide), a1 9 (by decide), a1 10 (by decide), hL, hm.2.1, nI_1, nI_clamp (by omega), nar_bI] at M9
    refine ⟨_, _, _, M9, O77x3, rfl, rfl, ?_, sX.rf.up (by decide), ((aX.mono a1 (by decide)).up (by decide)).up (by decide)⟩
    unfold psh
    rw [if_pos hlt]
    refine ⟨by simp; omega, by rw [pk_us]; simp, fun i g hg => ?_⟩
    rw [va_up_ne _ _ (show (9 : Nat) ≠ 10 by decide), va_up_self, va_up_self, va_up_ne _ _ (show (8 : Nat) ≠ 10 by decide), va_up_ne _ _ (show (8 : Nat) ≠ 9 by decide)]
    by_cases e : i = ms.length
    · subst e
      rw [List.getElem?_append_right (Nat.le_refl _), Nat.sub_self] at hg
      cases hg
      exact ⟨hl, pk_us, by rw [pk_us], r1⟩
    · have hi := (List.getElem?_eq_some_iff.mp hg).1
      simp at hi
      rw [List.getElem?_append_left (by omega)] at hg
      obtain ⟨b1, b2, b3, b4⟩ := hn.2.2 i g hg
      rw [pk_un e, pk_un e]
      exact ⟨b1, b2, b3, b4.same (fun q hq => f1 _ (Or.inl (by omega)))⟩
  · refine T_vret (pc := 9) d_Md_send_9 rfl rfl (Nat.le_refl _) ?_
    have hfl : ¬ ms.length < 16 := fun z => by
      have h16 : σ 13 = nI 16 := q6
      rw [hn.2.1] at h16
      have := (nI_eq (a := ms.length) (b := 16) (by omega) (by decide)).mp h16
      omega
    refine ⟨_, _, _, hM, mdO.rf, rfl, rfl, ?_, sX.rf, aX.rf⟩
    unfold psh
    rw [if_neg hfl]
    exact hn
