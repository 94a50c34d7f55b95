/-! OnceWire$Server.reply. -/
set_option maxRecDepth 100000 in
set_option maxHeartbeats 4000000 in
theorem c_Server_reply {n s w fm old : Nat} {sl : List Kn} {tot run xid stt res : Int32} {ads : List Nat} {ms : List Mg} {h : aH} (hv : Sv h s w fm sl old tot run) (hn : Nw h w ads ms) (d1 : w + 36 < s) : Con M_Server_reply 3 0 0 n [.ref s, .int xid, .int stt, .int res] h (fun r h' => r = none ∧ Sv h' s w fm (adS sl old (xid, repB xid stt res)) (slO sl.length old) tot run ∧ Nw h' w ads (if ms.length < 16 then ms ++ [(repB xid stt res, false)] else ms) ∧ ∀ q, q < w ∨ w + 36 < q → q < s ∨ s + 16 < q ∨ q = s + 1 ∨ q = s + 2 ∨ q = s + 3 → h' q = h q) := by
  obtain ⟨⟨hl4, ho4, hold⟩, ⟨g, hX, hG, hA, b4⟩, c1, ⟨lr, hbr⟩, c3⟩ := id hv
  refine Con.of rfl (Nat.le_of_ble_eq_true rfl) ?_
  refine T_aload_n (pc := 0) d_Server_reply_0 rfl ?_
  refine T_get (pc := 1) d_Server_reply_1 sF_Server_14_Server hX rfl ?_
  refine T_ivV (pc := 4) d_Server_reply_4 sI_Server_107 (c_Bytes_clear hbr) hbr.obj rfl rfl ⟨(Nat.le_of_ble_eq_true rfl), (Nat.le_of_ble_eq_true rfl)⟩ ⟨(Nat.le_of_ble_eq_true rfl), (Nat.le_of_ble_eq_true rfl)⟩ (Nat.le_of_ble_eq_true rfl) (fun r0 h0 q0 => ?_)
  obtain ⟨rfl, hb0, o0⟩ := q0
  have hX_0 := (o0 s (by omega)).trans hX
  have hG_0 := (o0 (s + 7) (by omega)).trans hG
  have hA_0 := (o0 (s + 8) (by omega)).trans hA
  refine T_aload_n (pc := 7) d_Server_reply_7 rfl ?_
  refine T_get (pc := 8) d_Server_reply_8 sF_Server_14_Server hX_0 rfl ?_
  refine T_iload_n (pc := 11) d_Server_reply_11 rfl ?_
  refine T_ivV (pc := 12) d_Server_reply_12 sI_Server_110 (c_Bytes_appendWord (x := xid) hb0 (by decide) (by simp [wby_len])) hb0.obj rfl rfl ⟨(Nat.le_of_ble_eq_true rfl), (Nat.le_of_ble_eq_true rfl)⟩ ⟨(Nat.le_of_ble_eq_true rfl), (Nat.le_of_ble_eq_true rfl)⟩ (Nat.le_of_ble_eq_true rfl) (fun r1 h1 q1 => ?_)
  obtain ⟨rfl, hb1, o1⟩ := q1
  have hX_1 := (o1 s (by omega) (by omega)).trans hX_0
  have hG_1 := (o1 (s + 7) (by omega) (by omega)).trans hG_0
  have hA_1 := (o1 (s + 8) (by omega) (by omega)).trans hA_0
  refine T_aload_n (pc := 15) d_Server_reply_15 rfl ?_
  refine T_get (pc := 16) d_Server_reply_16 sF_Server_14_Server hX_1 rfl ?_
  refine T_iconst (v := 1) (pc := 19) d_Server_reply_19 rfl ?_
  refine T_ivV (pc := 20) d_Server_reply_20 sI_Server_110 (c_Bytes_appendWord (x := 1) hb1 (by decide) (by simp [wby_len])) hb1.obj rfl rfl ⟨(Nat.le_of_ble_eq_true rfl), (Nat.le_of_ble_eq_true rfl)⟩ ⟨(Nat.le_of_ble_eq_true rfl), (Nat.le_of_ble_eq_true rfl)⟩ (Nat.le_of_ble_eq_true rfl) (fun r2 h2 q2 => ?_)
  obtain ⟨rfl, hb2, o2⟩ := q2
  have hX_2 := (o2 s (by omega) (by omega)).trans hX_1
  have hG_2 := (o2 (s + 7) (by omega) (by omega)).trans hG_1
  have hA_2 := (o2 (s + 8) (by omega) (by omega)).trans hA_1
  refine T_aload_n (pc := 23) d_Server_reply_23 rfl ?_
  refine T_get (pc := 24) d_Server_reply_24 sF_Server_14_Server hX_2 rfl ?_
  refine T_iload_n (pc := 27) d_Server_reply_27 rfl ?_
  refine T_ivV (pc := 28) d_Server_reply_28 sI_Server_110 (c_Bytes_appendWord (x := stt) hb2 (by decide) (by simp [wby_len])) hb2.obj rfl rfl ⟨(Nat.le_of_ble_eq_true rfl), (Nat.le_of_ble_eq_true rfl)⟩ ⟨(Nat.le_of_ble_eq_true rfl), (Nat.le_of_ble_eq_true rfl)⟩ (Nat.le_of_ble_eq_true rfl) (fun r3 h3 q3 => ?_)
  obtain ⟨rfl, hb3, o3⟩ := q3
  have hX_3 := (o3 s (by omega) (by omega)).trans hX_2
  have hG_3 := (o3 (s + 7) (by omega) (by omega)).trans hG_2
  have hA_3 := (o3 (s + 8) (by omega) (by omega)).trans hA_2
  refine T_iload_n (pc := 31) d_Server_reply_31 rfl ?_
  refine T_if_ne (tgt := 43) (pc := 32) d_Server_reply_32 (by decide) (fun q32 => ?_) (fun q32 => ?_)
  · have hrec : By h3 (s + 4) 200 (repR xid stt res) := by
      unfold repR
      rw [if_neg q32]
      simpa [List.append_assoc] using hb3
    have oR : ∀ q, q ≠ s + 4 → q ≠ s + 4 + 1 → h3 q = h q := fun q z1 z2 => ((o3 q z1 z2).trans ((o2 q z1 z2).trans ((o1 q z1 z2).trans (o0 q z1))))
    refine T_aload_n (pc := 43) d_Server_reply_43 rfl ?_
    refine T_ivV (pc := 44) d_Server_reply_44 sI_Server_113 (c_Server_slotForNew hl4 ho4 hX_3) hX_3 rfl rfl ⟨(Nat.le_of_ble_eq_true rfl), (Nat.le_of_ble_eq_true rfl)⟩ ⟨(Nat.le_of_ble_eq_true rfl), (Nat.le_of_ble_eq_true rfl)⟩ (Nat.le_of_ble_eq_true rfl) (fun r5 h5 q5 => ?_)
    obtain ⟨rfl, hX5, o5⟩ := q5
    have hG_5 := (o5 (s + 7) (by omega)).trans hG_3
    have hA_5 := (o5 (s + 8) (by omega)).trans hA_3
    have hsl : slN sl.length old < 4 := by unfold slN; split <;> omega
    generalize hsle : slN sl.length old = slot at hsl
    refine T_istore (pc := 47) d_Server_reply_47 (Nat.le_of_ble_eq_true rfl) rfl ?_
    refine T_aload_n (pc := 49) d_Server_reply_49 rfl ?_
    refine T_get (pc := 50) d_Server_reply_50 sF_Server_29_Server hX5 rfl ?_
    refine T_iload (pc := 53) d_Server_reply_53 rfl ?_
    refine T_iload_n (pc := 55) d_Server_reply_55 rfl ?_
    refine T_iast (pc := 56) d_Server_reply_56 (Nat.succ_ne_zero _) hG_5 (vp_in_nI hsl (by decide)) (T_up (fun h56x1 g56x1 o56x1 => ?_))
    have hA_56x1 := (o56x1 (s + 8) (by omega)).trans hA_5
    have hX5_56x1 := (o56x1 s (by omega)).trans hX5
    refine T_aload_n (pc := 57) d_Server_reply_57 rfl ?_
    refine T_get (pc := 58) d_Server_reply_58 sF_Server_14_Server hX5_56x1 rfl ?_
    refine T_aload_n (pc := 61) d_Server_reply_61 rfl ?_
    refine T_get (pc := 62) d_Server_reply_62 sF_Server_33_Server hX5_56x1 rfl ?_
    refine T_iload (pc := 65) d_Server_reply_65 rfl ?_
    refine T_aald (pc := 67) d_Server_reply_67 hA_56x1 (vp_in_nI hsl (by decide)) (by rw [nI_clamp (by omega)]; exact rws_at hsl) ?_
    obtain ⟨l0, hrow0⟩ := c1 slot hsl
    have hrow7 : By h56x1 (s + 8 + 2 * slot + 1) 20 l0 := hrow0.same ((o56x1 _ (by omega)).trans ((o5 _ (by omega)).trans (oR _ (by omega) (by omega)))) ((o56x1 _ (by omega)).trans ((o5 _ (by omega)).trans (oR _ (by omega) (by omega))))
    have hrec7 : By h56x1 (s + 4) 200 (repR xid stt res) := hrec.same ((o56x1 _ (by omega)).trans (o5 _ (by omega))) ((o56x1 _ (by omega)).trans (o5 _ (by omega)))
    refine T_ivS (pc := 68) d_Server_reply_68 sI_Server_116 (c_Fragments_wrap hrow7 hrec7 (by decide) (by decide) (by omega) (repB_len xid stt res)) rfl rfl ⟨(Nat.le_of_ble_eq_true rfl), (Nat.le_of_ble_eq_true rfl)⟩ ⟨(Nat.le_of_ble_eq_true rfl), (Nat.le_of_ble_eq_true rfl)⟩ (Nat.le_of_ble_eq_true rfl) (fun r8 h8 q8 => ?_)
    obtain ⟨rfl, hb8, o8⟩ := q8
    have g56x1_8 := (o8 (s + 7) (by omega) (by omega)).trans g56x1
    have hA_8 := (o8 (s + 8) (by omega) (by omega)).trans hA_56x1
    have hX5_8 := (o8 s (by omega) (by omega)).trans hX5_56x1
    have oW : ∀ q, q ≠ s + 4 → q ≠ s + 4 + 1 → q ≠ s → q ≠ s + 7 → q ≠ s + 8 + 2 * slot + 1 → q ≠ s + 8 + 2 * slot + 1 + 1 → h8 q = h q := fun q z1 z2 z3 z4 z5 z6 => (o8 q z5 z6).trans ((o56x1 q z4).trans ((o5 q z3).trans (oR q z1 z2)))
    have hn8 := hn.same (h' := h8) (fun q z1 z2 => oW q (by omega) (by omega) (by omega) (by omega) (by omega) (by omega))
    have hrec8 : By h8 (s + 4) 200 (repR xid stt res) := hrec7.same (o8 _ (by omega) (by omega)) (o8 _ (by omega) (by omega))
    refine T_aload_n (pc := 71) d_Server_reply_71 rfl ?_
    refine T_get (pc := 72) d_Server_reply_72 sF_Server_50_Server hX5_8 rfl ?_
    refine T_aload_n (pc := 75) d_Server_reply_75 rfl ?_
    refine T_get (pc := 76) d_Server_reply_76 sF_Server_33_Server hX5_8 rfl ?_
    refine T_iload (pc := 79) d_Server_reply_79 rfl ?_
    refine T_aald (pc := 81) d_Server_reply_81 hA_8 (vp_in_nI hsl (by decide)) (by rw [nI_clamp (by omega)]; exact rws_at hsl) ?_
    refine T_iconst (v := 0) (pc := 82) d_Server_reply_82 rfl ?_
    refine T_ivV (pc := 83) d_Server_reply_83 sI_Server_75 (c_Network_send (b := false) hn8 hb8 (by decide) (by have := repB_len xid stt res; unfold repB at this; omega) (fun _ q0 hq0 e => by have := hn8.1.2.2.1 q0 (List.mem_of_getElem? hq0); omega)) hn8.obj rfl rfl ⟨(Nat.le_of_ble_eq_true rfl), (Nat.le_of_ble_eq_true rfl)⟩ ⟨(Nat.le_of_ble_eq_true rfl), (Nat.le_of_ble_eq_true rfl)⟩ (Nat.le_of_ble_eq_true rfl) (fun r9 h9 q9 => ?_)
    have hn9 : Nw h9 w ads (if ms.length < 16 then ms ++ [(repB xid stt res, false)] else ms) ∧ r9 = none ∧ ∀ q, q < w ∨ w + 36 < q → h9 q = h8 q := by
      split at q9
      · rename_i hlt
        rw [if_pos hlt]
        exact ⟨q9.2.1, q9.1, q9.2.2⟩
      · rename_i hlt
        rw [if_neg hlt, q9.2]
        exact ⟨hn8, q9.1, fun _ _ => rfl⟩
    obtain ⟨hn9, rfl, o9⟩ := hn9
    have g56x1_9 := (o9 (s + 7) (by omega)).trans g56x1_8
    have hA_9 := (o9 (s + 8) (by omega)).trans hA_8
    have hX5_9 := (o9 s (by omega)).trans hX5_8
    refine T_vret (pc := 86) d_Server_reply_86 rfl rfl (Nat.le_refl _) ?_
    have hby : ∀ a cp l, w + 36 < a → By h8 a cp l → By h9 a cp l := fun a cp l ha hb => hb.same (o9 a (by omega)) (o9 (a + 1) (by omega))
    have hg7 := g56x1_9
    rw [nI_clamp (by omega)] at hg7
    refine ⟨rfl, ⟨⟨by rw [adS_len]; unfold slL; split <;> omega, by unfold slO; split <;> omega, fun hz => ?_⟩, ⟨_, ?_, hg7, hA_9, fun i m hm => ?_⟩, fun i hi => ?_, ⟨_, hby _ _ _ (by omega) hrec8⟩, ?_⟩, hn9, fun q z1 z2 => ?_⟩
    · rw [adS_len] at hz
      unfold slL at hz
      unfold slO
      split at hz
      · rename_i hlt
        rw [if_pos hlt]
        exact hold hlt
      · omega
    · rw [adS_len]
      exact hX5_9
    · rcases adS_at ho4 hl4 hm with ⟨e1, e2⟩ | ⟨e1, e2⟩
      · rw [hsle] at e1
        subst e1; subst e2
        exact ⟨pk_us, hby _ _ _ (by omega) hb8⟩
      · rw [hsle] at e1
        have hi4 := (List.getElem?_eq_some_iff.mp e2).1
        obtain ⟨z1, z2⟩ := b4 i m e2
        exact ⟨by rw [pk_un e1]; exact z1, hby _ _ _ (by omega) (z2.same (oW _ (by omega) (by omega) (by omega) (by omega) (by omega) (by omega)) (oW _ (by omega) (by omega) (by omega) (by omega) (by omega) (by omega)))⟩
    · by_cases hii : i = slot
      · subst hii
        exact ⟨_, hby _ _ _ (by omega) hb8⟩
      · obtain ⟨l, hl⟩ := c1 i hi
        exact ⟨l, hby _ _ _ (by omega) (hl.same (oW _ (by omega) (by omega) (by omega) (by omega) (by omega) (by omega)) (oW _ (by omega) (by omega) (by omega) (by omega) (by omega) (by omega)))⟩
    · obtain ⟨p, f, hr⟩ := c3
      exact ⟨p, f, (o9 _ (by omega)).trans ((oW _ (by omega) (by omega) (by omega) (by omega) (by omega) (by omega)).trans hr)⟩
    · rw [o9 q z1]
      exact oW q (by omega) (by omega) (by omega) (by omega) (by omega) (by omega)
  · refine T_aload_n (pc := 35) d_Server_reply_35 rfl ?_
    refine T_get (pc := 36) d_Server_reply_36 sF_Server_14_Server hX_3 rfl ?_
    refine T_iload_n (pc := 39) d_Server_reply_39 rfl ?_
    refine T_ivV (pc := 40) d_Server_reply_40 sI_Server_110 (c_Bytes_appendWord (x := res) hb3 (by decide) (by simp [wby_len])) hb3.obj rfl rfl ⟨(Nat.le_of_ble_eq_true rfl), (Nat.le_of_ble_eq_true rfl)⟩ ⟨(Nat.le_of_ble_eq_true rfl), (Nat.le_of_ble_eq_true rfl)⟩ (Nat.le_of_ble_eq_true rfl) (fun r4 h4 q4 => ?_)
    obtain ⟨rfl, hb4, o4⟩ := q4
    have hX_4 := (o4 s (by omega) (by omega)).trans hX_3
    have hG_4 := (o4 (s + 7) (by omega) (by omega)).trans hG_3
    have hA_4 := (o4 (s + 8) (by omega) (by omega)).trans hA_3
    have hrec : By h4 (s + 4) 200 (repR xid stt res) := by
      unfold repR
      rw [if_pos q32]
      simpa [List.append_assoc] using hb4
    have oR : ∀ q, q ≠ s + 4 → q ≠ s + 4 + 1 → h4 q = h q := fun q z1 z2 => (o4 q z1 z2).trans ((o3 q z1 z2).trans ((o2 q z1 z2).trans ((o1 q z1 z2).trans (o0 q z1))))
    refine T_aload_n (pc := 43) d_Server_reply_43 rfl ?_
    refine T_ivV (pc := 44) d_Server_reply_44 sI_Server_113 (c_Server_slotForNew hl4 ho4 hX_4) hX_4 rfl rfl ⟨(Nat.le_of_ble_eq_true rfl), (Nat.le_of_ble_eq_true rfl)⟩ ⟨(Nat.le_of_ble_eq_true rfl), (Nat.le_of_ble_eq_true rfl)⟩ (Nat.le_of_ble_eq_true rfl) (fun r5 h5 q5 => ?_)
    obtain ⟨rfl, hX5, o5⟩ := q5
    have hG_5 := (o5 (s + 7) (by omega)).trans hG_4
    have hA_5 := (o5 (s + 8) (by omega)).trans hA_4
    have hsl : slN sl.length old < 4 := by unfold slN; split <;> omega
    generalize hsle : slN sl.length old = slot at hsl
    refine T_istore (pc := 47) d_Server_reply_47 (Nat.le_of_ble_eq_true rfl) rfl ?_
    refine T_aload_n (pc := 49) d_Server_reply_49 rfl ?_
    refine T_get (pc := 50) d_Server_reply_50 sF_Server_29_Server hX5 rfl ?_
    refine T_iload (pc := 53) d_Server_reply_53 rfl ?_
    refine T_iload_n (pc := 55) d_Server_reply_55 rfl ?_
    refine T_iast (pc := 56) d_Server_reply_56 (Nat.succ_ne_zero _) hG_5 (vp_in_nI hsl (by decide)) (T_up (fun h56x2 g56x2 o56x2 => ?_))
    have hA_56x2 := (o56x2 (s + 8) (by omega)).trans hA_5
    have hX5_56x2 := (o56x2 s (by omega)).trans hX5
    refine T_aload_n (pc := 57) d_Server_reply_57 rfl ?_
    refine T_get (pc := 58) d_Server_reply_58 sF_Server_14_Server hX5_56x2 rfl ?_
    refine T_aload_n (pc := 61) d_Server_reply_61 rfl ?_
    refine T_get (pc := 62) d_Server_reply_62 sF_Server_33_Server hX5_56x2 rfl ?_
    refine T_iload (pc := 65) d_Server_reply_65 rfl ?_
    refine T_aald (pc := 67) d_Server_reply_67 hA_56x2 (vp_in_nI hsl (by decide)) (by rw [nI_clamp (by omega)]; exact rws_at hsl) ?_
    obtain ⟨l0, hrow0⟩ := c1 slot hsl
    have hrow7 : By h56x2 (s + 8 + 2 * slot + 1) 20 l0 := hrow0.same ((o56x2 _ (by omega)).trans ((o5 _ (by omega)).trans (oR _ (by omega) (by omega)))) ((o56x2 _ (by omega)).trans ((o5 _ (by omega)).trans (oR _ (by omega) (by omega))))
    have hrec7 : By h56x2 (s + 4) 200 (repR xid stt res) := hrec.same ((o56x2 _ (by omega)).trans (o5 _ (by omega))) ((o56x2 _ (by omega)).trans (o5 _ (by omega)))
    refine T_ivS (pc := 68) d_Server_reply_68 sI_Server_116 (c_Fragments_wrap hrow7 hrec7 (by decide) (by decide) (by omega) (repB_len xid stt res)) rfl rfl ⟨(Nat.le_of_ble_eq_true rfl), (Nat.le_of_ble_eq_true rfl)⟩ ⟨(Nat.le_of_ble_eq_true rfl), (Nat.le_of_ble_eq_true rfl)⟩ (Nat.le_of_ble_eq_true rfl) (fun r8 h8 q8 => ?_)
    obtain ⟨rfl, hb8, o8⟩ := q8
    have g56x2_8 := (o8 (s + 7) (by omega) (by omega)).trans g56x2
    have hA_8 := (o8 (s + 8) (by omega) (by omega)).trans hA_56x2
    have hX5_8 := (o8 s (by omega) (by omega)).trans hX5_56x2
    have oW : ∀ q, q ≠ s + 4 → q ≠ s + 4 + 1 → q ≠ s → q ≠ s + 7 → q ≠ s + 8 + 2 * slot + 1 → q ≠ s + 8 + 2 * slot + 1 + 1 → h8 q = h q := fun q z1 z2 z3 z4 z5 z6 => (o8 q z5 z6).trans ((o56x2 q z4).trans ((o5 q z3).trans (oR q z1 z2)))
    have hn8 := hn.same (h' := h8) (fun q z1 z2 => oW q (by omega) (by omega) (by omega) (by omega) (by omega) (by omega))
    have hrec8 : By h8 (s + 4) 200 (repR xid stt res) := hrec7.same (o8 _ (by omega) (by omega)) (o8 _ (by omega) (by omega))
    refine T_aload_n (pc := 71) d_Server_reply_71 rfl ?_
    refine T_get (pc := 72) d_Server_reply_72 sF_Server_50_Server hX5_8 rfl ?_
    refine T_aload_n (pc := 75) d_Server_reply_75 rfl ?_
    refine T_get (pc := 76) d_Server_reply_76 sF_Server_33_Server hX5_8 rfl ?_
    refine T_iload (pc := 79) d_Server_reply_79 rfl ?_
    refine T_aald (pc := 81) d_Server_reply_81 hA_8 (vp_in_nI hsl (by decide)) (by rw [nI_clamp (by omega)]; exact rws_at hsl) ?_
    refine T_iconst (v := 0) (pc := 82) d_Server_reply_82 rfl ?_
    refine T_ivV (pc := 83) d_Server_reply_83 sI_Server_75 (c_Network_send (b := false) hn8 hb8 (by decide) (by have := repB_len xid stt res; unfold repB at this; omega) (fun _ q0 hq0 e => by have := hn8.1.2.2.1 q0 (List.mem_of_getElem? hq0); omega)) hn8.obj rfl rfl ⟨(Nat.le_of_ble_eq_true rfl), (Nat.le_of_ble_eq_true rfl)⟩ ⟨(Nat.le_of_ble_eq_true rfl), (Nat.le_of_ble_eq_true rfl)⟩ (Nat.le_of_ble_eq_true rfl) (fun r9 h9 q9 => ?_)
    have hn9 : Nw h9 w ads (if ms.length < 16 then ms ++ [(repB xid stt res, false)] else ms) ∧ r9 = none ∧ ∀ q, q < w ∨ w + 36 < q → h9 q = h8 q := by
      split at q9
      · rename_i hlt
        rw [if_pos hlt]
        exact ⟨q9.2.1, q9.1, q9.2.2⟩
      · rename_i hlt
        rw [if_neg hlt, q9.2]
        exact ⟨hn8, q9.1, fun _ _ => rfl⟩
    obtain ⟨hn9, rfl, o9⟩ := hn9
    have g56x2_9 := (o9 (s + 7) (by omega)).trans g56x2_8
    have hA_9 := (o9 (s + 8) (by omega)).trans hA_8
    have hX5_9 := (o9 s (by omega)).trans hX5_8
    refine T_vret (pc := 86) d_Server_reply_86 rfl rfl (Nat.le_refl _) ?_
    have hby : ∀ a cp l, w + 36 < a → By h8 a cp l → By h9 a cp l := fun a cp l ha hb => hb.same (o9 a (by omega)) (o9 (a + 1) (by omega))
    have hg7 := g56x2_9
    rw [nI_clamp (by omega)] at hg7
    refine ⟨rfl, ⟨⟨by rw [adS_len]; unfold slL; split <;> omega, by unfold slO; split <;> omega, fun hz => ?_⟩, ⟨_, ?_, hg7, hA_9, fun i m hm => ?_⟩, fun i hi => ?_, ⟨_, hby _ _ _ (by omega) hrec8⟩, ?_⟩, hn9, fun q z1 z2 => ?_⟩
    · rw [adS_len] at hz
      unfold slL at hz
      unfold slO
      split at hz
      · rename_i hlt
        rw [if_pos hlt]
        exact hold hlt
      · omega
    · rw [adS_len]
      exact hX5_9
    · rcases adS_at ho4 hl4 hm with ⟨e1, e2⟩ | ⟨e1, e2⟩
      · rw [hsle] at e1
        subst e1; subst e2
        exact ⟨pk_us, hby _ _ _ (by omega) hb8⟩
      · rw [hsle] at e1
        have hi4 := (List.getElem?_eq_some_iff.mp e2).1
        obtain ⟨z1, z2⟩ := b4 i m e2
        exact ⟨by rw [pk_un e1]; exact z1, hby _ _ _ (by omega) (z2.same (oW _ (by omega) (by omega) (by omega) (by omega) (by omega) (by omega)) (oW _ (by omega) (by omega) (by omega) (by omega) (by omega) (by omega)))⟩
    · by_cases hii : i = slot
      · subst hii
        exact ⟨_, hby _ _ _ (by omega) hb8⟩
      · obtain ⟨l, hl⟩ := c1 i hi
        exact ⟨l, hby _ _ _ (by omega) (hl.same (oW _ (by omega) (by omega) (by omega) (by omega) (by omega) (by omega)) (oW _ (by omega) (by omega) (by omega) (by omega) (by omega) (by omega)))⟩
    · obtain ⟨p, f, hr⟩ := c3
      exact ⟨p, f, (o9 _ (by omega)).trans ((oW _ (by omega) (by omega) (by omega) (by omega) (by omega) (by omega)).trans hr)⟩
    · rw [o9 q z1]
      exact oW q (by omega) (by omega) (by omega) (by omega) (by omega) (by omega)
