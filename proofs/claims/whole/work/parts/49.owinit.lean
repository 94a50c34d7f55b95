/-! OnceWire: the constructor. -/
set_option maxRecDepth 100000 in
set_option maxHeartbeats 4000000 in
theorem c_OW_init {x : Nat} {h : aH} {kd : Int32} (hX : h x = some (.inr (0, [.null, .null, .null, .null, .null, .null]))) : Con M_OW_init 3 89 5004 x [.ref x, .int kd] h (fun r h' => r = none ∧ Ow h' x (decide (kd &&& 1 = 1)) [] [] [] [] [] 0 0 0 [] [] ∧ ∀ q, q < x → h' q = h q) := by
  refine Con.of rfl (Nat.le_of_ble_eq_true rfl) ?_
  refine T_aload_n (pc := 0) d_OW_init_0 rfl ?_
  refine T_objInit (pc := 1) d_OW_init_1 sI_OW_1 ⟨(Nat.le_of_ble_eq_true rfl), (Nat.le_of_ble_eq_true rfl)⟩ (Nat.le_of_ble_eq_true rfl) ?_
  refine T_aload_n (pc := 4) d_OW_init_4 rfl ?_
  refine T_new (pc := 5) d_OW_init_5 sN_OW_7 (Nat.le_of_ble_eq_true rfl) (Nat.le_of_ble_eq_true rfl) (T_up (fun h5x1 g5x1 o5x1 => ?_))
  have hX_5x1 := (o5x1 x (by omega)).trans hX
  have fr_5x1 : ∀ q, q < x → h5x1 q = h q := fun q z => (o5x1 q (by omega)).trans ((fun _ _ => rfl) q z)
  refine T_dup (pc := 8) d_OW_init_8 rfl ?_
  refine T_ivIN (pc := 9) d_OW_init_9 sI_OW_9 (c_Schema_init (a := x + 1) g5x1) rfl rfl ⟨(Nat.le_of_ble_eq_true rfl), (Nat.le_of_ble_eq_true rfl)⟩ ⟨(Nat.le_of_ble_eq_true rfl), (Nat.le_of_ble_eq_true rfl)⟩ (Nat.le_of_ble_eq_true rfl) (fun r1 h1 q1 => ?_)
  obtain ⟨rfl, f1, o1⟩ := q1
  have fr_1 : ∀ q, q < x → h1 q = h q := fun q z => (o1 q (by omega)).trans (fr_5x1 q z)
  have hX_1 := (o1 x (by omega)).trans hX_5x1
  refine T_putF (pc := 12) d_OW_init_12 sFF_OW_10_OW rfl hX_1 (Nat.le_of_ble_eq_true rfl) (a_fit_o _ _) (T_up (fun h12x2 g12x2 o12x2 => ?_))
  have fr_12x2 : ∀ q, q < x → h12x2 q = h q := fun q z => (o12x2 q (by omega)).trans (fr_1 q z)
  have hs_12x2 := Sc.same (h' := h12x2) f1 (fun q z1 z2 => o12x2 q (by omega))
  refine T_aload_n (pc := 15) d_OW_init_15 rfl ?_
  refine T_new (pc := 16) d_OW_init_16 sN_OW_16 (Nat.le_of_ble_eq_true rfl) (Nat.le_of_ble_eq_true rfl) (T_up (fun h16x3 g16x3 o16x3 => ?_))
  have g12x2_16x3 := (o16x3 x (by omega)).trans g12x2
  have fr_16x3 : ∀ q, q < x → h16x3 q = h q := fun q z => (o16x3 q (by omega)).trans (fr_12x2 q z)
  have hs_16x3 := Sc.same (h' := h16x3) hs_12x2 (fun q z1 z2 => o16x3 q (by omega))
  refine T_dup (pc := 19) d_OW_init_19 rfl ?_
  refine T_aload_n (pc := 20) d_OW_init_20 rfl ?_
  refine T_get (pc := 21) d_OW_init_21 sF_OW_10_OW g12x2_16x3 rfl ?_
  refine T_ivI (pc := 24) d_OW_init_24 sI_OW_18 (c_Value_init (v := x + 6) (sa := x + 1) g16x3) rfl rfl ⟨(Nat.le_of_ble_eq_true rfl), (Nat.le_of_ble_eq_true rfl)⟩ ⟨(Nat.le_of_ble_eq_true rfl), (Nat.le_of_ble_eq_true rfl)⟩ (Nat.le_of_ble_eq_true rfl) (fun r2 h2 q2 => ?_)
  obtain ⟨rfl, f2, o2⟩ := q2
  have fr_2 : ∀ q, q < x → h2 q = h q := fun q z => (o2 q (by omega)).trans (fr_16x3 q z)
  have hs_2 := Sc.same (h' := h2) hs_16x3 (fun q z1 z2 => o2 q (by omega))
  have g12x2_2 := (o2 x (by omega)).trans g12x2_16x3
  refine T_putF (pc := 27) d_OW_init_27 sFF_OW_21_OW rfl g12x2_2 (Nat.le_of_ble_eq_true rfl) (a_fit_o _ _) (T_up (fun h27x4 g27x4 o27x4 => ?_))
  have fr_27x4 : ∀ q, q < x → h27x4 q = h q := fun q z => (o27x4 q (by omega)).trans (fr_2 q z)
  have hs_27x4 := Sc.same (h' := h27x4) hs_2 (fun q z1 z2 => o27x4 q (by omega))
  have hva_27x4 := Va.same (h' := h27x4) f2 (fun q z1 z2 => o27x4 q (by omega))
  refine T_aload_n (pc := 30) d_OW_init_30 rfl ?_
  refine T_new (pc := 31) d_OW_init_31 sN_OW_25 (Nat.le_of_ble_eq_true rfl) (Nat.le_of_ble_eq_true rfl) (T_up (fun h31x5 g31x5 o31x5 => ?_))
  have g27x4_31x5 := (o31x5 x (by omega)).trans g27x4
  have fr_31x5 : ∀ q, q < x → h31x5 q = h q := fun q z => (o31x5 q (by omega)).trans (fr_27x4 q z)
  have hs_31x5 := Sc.same (h' := h31x5) hs_27x4 (fun q z1 z2 => o31x5 q (by omega))
  have hva_31x5 := Va.same (h' := h31x5) hva_27x4 (fun q z1 z2 => o31x5 q (by omega))
  refine T_dup (pc := 34) d_OW_init_34 rfl ?_
  refine T_sipush (v := 200) (pc := 35) d_OW_init_35 rfl ?_
  refine T_ivI (pc := 38) d_OW_init_38 sI_OW_27 (c_Bytes_init (a := x + 9) (cap := 200) g31x5 (by decide)) rfl rfl ⟨(Nat.le_of_ble_eq_true rfl), (Nat.le_of_ble_eq_true rfl)⟩ ⟨(Nat.le_of_ble_eq_true rfl), (Nat.le_of_ble_eq_true rfl)⟩ (Nat.le_of_ble_eq_true rfl) (fun r3 h3 q3 => ?_)
  obtain ⟨rfl, f3, o3⟩ := q3
  have fr_3 : ∀ q, q < x → h3 q = h q := fun q z => (o3 q (by omega) (by omega)).trans (fr_31x5 q z)
  have hs_3 := Sc.same (h' := h3) hs_31x5 (fun q z1 z2 => o3 q (by omega) (by omega))
  have hva_3 := Va.same (h' := h3) hva_31x5 (fun q z1 z2 => o3 q (by omega) (by omega))
  have g27x4_3 := (o3 x (by omega) (by omega)).trans g27x4_31x5
  refine T_putF (pc := 41) d_OW_init_41 sFF_OW_30_OW rfl g27x4_3 (Nat.le_of_ble_eq_true rfl) (a_fit_o _ _) (T_up (fun h41x6 g41x6 o41x6 => ?_))
  have fr_41x6 : ∀ q, q < x → h41x6 q = h q := fun q z => (o41x6 q (by omega)).trans (fr_3 q z)
  have hs_41x6 := Sc.same (h' := h41x6) hs_3 (fun q z1 z2 => o41x6 q (by omega))
  have hva_41x6 := Va.same (h' := h41x6) hva_3 (fun q z1 z2 => o41x6 q (by omega))
  have hb_41x6 := By.same (h' := h41x6) f3 (o41x6 _ (by omega)) (o41x6 _ (by omega))
  refine T_aload_n (pc := 44) d_OW_init_44 rfl ?_
  refine T_new (pc := 45) d_OW_init_45 sN_OW_34 (Nat.le_of_ble_eq_true rfl) (Nat.le_of_ble_eq_true rfl) (T_up (fun h45x7 g45x7 o45x7 => ?_))
  have g41x6_45x7 := (o45x7 x (by omega)).trans g41x6
  have fr_45x7 : ∀ q, q < x → h45x7 q = h q := fun q z => (o45x7 q (by omega)).trans (fr_41x6 q z)
  have hs_45x7 := Sc.same (h' := h45x7) hs_41x6 (fun q z1 z2 => o45x7 q (by omega))
  have hva_45x7 := Va.same (h' := h45x7) hva_41x6 (fun q z1 z2 => o45x7 q (by omega))
  have hb_45x7 := By.same (h' := h45x7) hb_41x6 (o45x7 _ (by omega)) (o45x7 _ (by omega))
  refine T_dup (pc := 48) d_OW_init_48 rfl ?_
  refine T_ivI (pc := 49) d_OW_init_49 sI_OW_36 (c_Network_init (w := x + 11) g45x7) rfl rfl ⟨(Nat.le_of_ble_eq_true rfl), (Nat.le_of_ble_eq_true rfl)⟩ ⟨(Nat.le_of_ble_eq_true rfl), (Nat.le_of_ble_eq_true rfl)⟩ (Nat.le_of_ble_eq_true rfl) (fun r4 h4 q4 => ?_)
  obtain ⟨rfl, f4, o4⟩ := q4
  have fr_4 : ∀ q, q < x → h4 q = h q := fun q z => (o4 q (by omega)).trans (fr_45x7 q z)
  have hs_4 := Sc.same (h' := h4) hs_45x7 (fun q z1 z2 => o4 q (by omega))
  have hva_4 := Va.same (h' := h4) hva_45x7 (fun q z1 z2 => o4 q (by omega))
  have hb_4 := By.same (h' := h4) hb_45x7 (o4 _ (by omega)) (o4 _ (by omega))
  have g41x6_4 := (o4 x (by omega)).trans g41x6_45x7
  refine T_putF (pc := 52) d_OW_init_52 sFF_OW_37_OW rfl g41x6_4 (Nat.le_of_ble_eq_true rfl) (a_fit_o _ _) (T_up (fun h52x8 g52x8 o52x8 => ?_))
  have fr_52x8 : ∀ q, q < x → h52x8 q = h q := fun q z => (o52x8 q (by omega)).trans (fr_4 q z)
  have hs_52x8 := Sc.same (h' := h52x8) hs_4 (fun q z1 z2 => o52x8 q (by omega))
  have hva_52x8 := Va.same (h' := h52x8) hva_4 (fun q z1 z2 => o52x8 q (by omega))
  have hb_52x8 := By.same (h' := h52x8) hb_4 (o52x8 _ (by omega)) (o52x8 _ (by omega))
  have hn_52x8 := Nw.same (h' := h52x8) f4 (fun q z1 z2 => o52x8 q (by omega))
  refine T_iload_n (pc := 55) d_OW_init_55 rfl ?_
  refine T_iconst (v := 1) (pc := 56) d_OW_init_56 rfl ?_
  refine T_iand (pc := 57) d_OW_init_57 ?_
  refine T_iconst (v := 1) (pc := 58) d_OW_init_58 rfl ?_
  refine T_icmp_ne (tgt := 76) (pc := 59) d_OW_init_59 (by decide) (fun q59 => ?_) (fun q59 => ?_)
  · refine T_new (pc := 76) d_OW_init_76 sN_OW_44 (Nat.le_of_ble_eq_true rfl) (Nat.le_of_ble_eq_true rfl) (T_up (fun h76x9 g76x9 o76x9 => ?_))
    have g52x8_76x9 := (o76x9 x (by omega)).trans g52x8
    have fr_76x9 : ∀ q, q < x → h76x9 q = h q := fun q z => (o76x9 q (by omega)).trans (fr_52x8 q z)
    have hs_76x9 := Sc.same (h' := h76x9) hs_52x8 (fun q z1 z2 => o76x9 q (by omega))
    have hva_76x9 := Va.same (h' := h76x9) hva_52x8 (fun q z1 z2 => o76x9 q (by omega))
    have hb_76x9 := By.same (h' := h76x9) hb_52x8 (o76x9 _ (by omega)) (o76x9 _ (by omega))
    have hn_76x9 := Nw.same (h' := h76x9) hn_52x8 (fun q z1 z2 => o76x9 q (by omega))
    refine T_dup (pc := 79) d_OW_init_79 rfl ?_
    refine T_aload_n (pc := 80) d_OW_init_80 rfl ?_
    refine T_get (pc := 81) d_OW_init_81 sF_OW_10_OW g52x8_76x9 rfl ?_
    refine T_ivI (pc := 84) d_OW_init_84 sI_OW_46 (c_TaggedFormat_init (a := x + 48) (sa := x + 1) g76x9) rfl rfl ⟨(Nat.le_of_ble_eq_true rfl), (Nat.le_of_ble_eq_true rfl)⟩ ⟨(Nat.le_of_ble_eq_true rfl), (Nat.le_of_ble_eq_true rfl)⟩ (Nat.le_of_ble_eq_true rfl) (fun r5 h5 q5 => ?_)
    obtain ⟨rfl, f5, o5⟩ := q5
    have fr_5 : ∀ q, q < x → h5 q = h q := fun q z => (o5 q (by omega)).trans (fr_76x9 q z)
    have hs_5 := Sc.same (h' := h5) hs_76x9 (fun q z1 z2 => o5 q (by omega))
    have hva_5 := Va.same (h' := h5) hva_76x9 (fun q z1 z2 => o5 q (by omega))
    have hb_5 := By.same (h' := h5) hb_76x9 (o5 _ (by omega)) (o5 _ (by omega))
    have hn_5 := Nw.same (h' := h5) hn_76x9 (fun q z1 z2 => o5 q (by omega))
    have g52x8_5 := (o5 x (by omega)).trans g52x8_76x9
    have ff5 : Fo h5 (x + 48) (x + 1) (decide (kd &&& 1 = 1)) := by
      unfold Fo
      rw [show decide (kd &&& 1 = 1) = false by simpa using q59]
      exact f5
    refine T_astore_n (pc := 87) d_OW_init_87 rfl (Nat.le_of_ble_eq_true rfl) rfl ?_
    refine T_aload_n (pc := 88) d_OW_init_88 rfl ?_
    refine T_new (pc := 89) d_OW_init_89 sN_OW_47 (Nat.le_of_ble_eq_true rfl) (Nat.le_of_ble_eq_true rfl) (T_up (fun h89x10 g89x10 o89x10 => ?_))
    have g52x8_89x10 := (o89x10 x (by omega)).trans g52x8_5
    have fr_89x10 : ∀ q, q < x → h89x10 q = h q := fun q z => (o89x10 q (by omega)).trans (fr_5 q z)
    have hs_89x10 := Sc.same (h' := h89x10) hs_5 (fun q z1 z2 => o89x10 q (by omega))
    have hva_89x10 := Va.same (h' := h89x10) hva_5 (fun q z1 z2 => o89x10 q (by omega))
    have hb_89x10 := By.same (h' := h89x10) hb_5 (o89x10 _ (by omega)) (o89x10 _ (by omega))
    have hn_89x10 := Nw.same (h' := h89x10) hn_5 (fun q z1 z2 => o89x10 q (by omega))
    have hF_89x10 : Fo h89x10 (x + 48) (x + 1) (decide (kd &&& 1 = 1)) := (o89x10 _ (by omega)).trans ff5
    refine T_dup (pc := 92) d_OW_init_92 rfl ?_
    refine T_aload_n (pc := 93) d_OW_init_93 rfl ?_
    refine T_get (pc := 94) d_OW_init_94 sF_OW_37_OW g52x8_89x10 rfl ?_
    refine T_aload_n (pc := 97) d_OW_init_97 rfl ?_
    refine T_new (pc := 98) d_OW_init_98 sN_OW_16 (Nat.le_of_ble_eq_true rfl) (Nat.le_of_ble_eq_true rfl) (T_up (fun h98x11 g98x11 o98x11 => ?_))
    have g52x8_98x11 := (o98x11 x (by omega)).trans g52x8_89x10
    have g89x10_98x11 := (o98x11 (x + 49) (by omega)).trans g89x10
    have fr_98x11 : ∀ q, q < x → h98x11 q = h q := fun q z => (o98x11 q (by omega)).trans (fr_89x10 q z)
    have hs_98x11 := Sc.same (h' := h98x11) hs_89x10 (fun q z1 z2 => o98x11 q (by omega))
    have hva_98x11 := Va.same (h' := h98x11) hva_89x10 (fun q z1 z2 => o98x11 q (by omega))
    have hb_98x11 := By.same (h' := h98x11) hb_89x10 (o98x11 _ (by omega)) (o98x11 _ (by omega))
    have hn_98x11 := Nw.same (h' := h98x11) hn_89x10 (fun q z1 z2 => o98x11 q (by omega))
    have hF_98x11 : Fo h98x11 (x + 48) (x + 1) (decide (kd &&& 1 = 1)) := (o98x11 _ (by omega)).trans hF_89x10
    refine T_dup (pc := 101) d_OW_init_101 rfl ?_
    refine T_aload_n (pc := 102) d_OW_init_102 rfl ?_
    refine T_get (pc := 103) d_OW_init_103 sF_OW_10_OW g52x8_98x11 rfl ?_
    refine T_ivI (pc := 106) d_OW_init_106 sI_OW_18 (c_Value_init (v := x + 49 + 1) (sa := x + 1) g98x11) rfl rfl ⟨(Nat.le_of_ble_eq_true rfl), (Nat.le_of_ble_eq_true rfl)⟩ ⟨(Nat.le_of_ble_eq_true rfl), (Nat.le_of_ble_eq_true rfl)⟩ (Nat.le_of_ble_eq_true rfl) (fun r6 h6 q6 => ?_)
    obtain ⟨rfl, f6, o6⟩ := q6
    have fr_6 : ∀ q, q < x → h6 q = h q := fun q z => (o6 q (by omega)).trans (fr_98x11 q z)
    have hs_6 := Sc.same (h' := h6) hs_98x11 (fun q z1 z2 => o6 q (by omega))
    have hva_6 := Va.same (h' := h6) hva_98x11 (fun q z1 z2 => o6 q (by omega))
    have hb_6 := By.same (h' := h6) hb_98x11 (o6 _ (by omega)) (o6 _ (by omega))
    have hn_6 := Nw.same (h' := h6) hn_98x11 (fun q z1 z2 => o6 q (by omega))
    have hF_6 : Fo h6 (x + 48) (x + 1) (decide (kd &&& 1 = 1)) := (o6 _ (by omega)).trans hF_98x11
    have g52x8_6 := (o6 x (by omega)).trans g52x8_98x11
    have g89x10_6 := (o6 (x + 49) (by omega)).trans g89x10_98x11
    refine T_ivI (pc := 109) d_OW_init_109 sI_OW_49 (c_Server_init (s := x + 49) (w := x + 11) (fm := x + 48) g89x10_6) rfl rfl ⟨(Nat.le_of_ble_eq_true rfl), (Nat.le_of_ble_eq_true rfl)⟩ ⟨(Nat.le_of_ble_eq_true rfl), (Nat.le_of_ble_eq_true rfl)⟩ (Nat.le_of_ble_eq_true rfl) (fun r7 h7 q7 => ?_)
    obtain ⟨rfl, f7, o7⟩ := q7
    have fr_7 : ∀ q, q < x → h7 q = h q := fun q z => (o7 q (by omega)).trans (fr_6 q z)
    have hs_7 := Sc.same (h' := h7) hs_6 (fun q z1 z2 => o7 q (by omega))
    have hva_7 := Va.same (h' := h7) hva_6 (fun q z1 z2 => o7 q (by omega))
    have hb_7 := By.same (h' := h7) hb_6 (o7 _ (by omega)) (o7 _ (by omega))
    have hn_7 := Nw.same (h' := h7) hn_6 (fun q z1 z2 => o7 q (by omega))
    have hF_7 : Fo h7 (x + 48) (x + 1) (decide (kd &&& 1 = 1)) := (o7 _ (by omega)).trans hF_6
    have hsva_7 := Va.same (h' := h7) f6 (fun q z1 z2 => o7 q (by omega))
    have g52x8_7 := (o7 x (by omega)).trans g52x8_6
    refine T_putF (pc := 112) d_OW_init_112 sFF_OW_52_OW rfl g52x8_7 (Nat.le_of_ble_eq_true rfl) (a_fit_o _ _) (T_up (fun h112x12 g112x12 o112x12 => ?_))
    have fr_112x12 : ∀ q, q < x → h112x12 q = h q := fun q z => (o112x12 q (by omega)).trans (fr_7 q z)
    have hs_112x12 := Sc.same (h' := h112x12) hs_7 (fun q z1 z2 => o112x12 q (by omega))
    have hva_112x12 := Va.same (h' := h112x12) hva_7 (fun q z1 z2 => o112x12 q (by omega))
    have hb_112x12 := By.same (h' := h112x12) hb_7 (o112x12 _ (by omega)) (o112x12 _ (by omega))
    have hn_112x12 := Nw.same (h' := h112x12) hn_7 (fun q z1 z2 => o112x12 q (by omega))
    have hF_112x12 : Fo h112x12 (x + 48) (x + 1) (decide (kd &&& 1 = 1)) := (o112x12 _ (by omega)).trans hF_7
    have hsva_112x12 := Va.same (h' := h112x12) hsva_7 (fun q z1 z2 => o112x12 q (by omega))
    have hsv_112x12 := Sv.out (h' := h112x12) f7 (fun q z1 z2 => o112x12 q (by omega))
    refine T_aload_n (pc := 115) d_OW_init_115 rfl ?_
    refine T_new (pc := 116) d_OW_init_116 sN_OW_56 (Nat.le_of_ble_eq_true rfl) (Nat.le_of_ble_eq_true rfl) (T_up (fun h116x13 g116x13 o116x13 => ?_))
    have g112x12_116x13 := (o116x13 x (by omega)).trans g112x12
    have fr_116x13 : ∀ q, q < x → h116x13 q = h q := fun q z => (o116x13 q (by omega)).trans (fr_112x12 q z)
    have hs_116x13 := Sc.same (h' := h116x13) hs_112x12 (fun q z1 z2 => o116x13 q (by omega))
    have hva_116x13 := Va.same (h' := h116x13) hva_112x12 (fun q z1 z2 => o116x13 q (by omega))
    have hb_116x13 := By.same (h' := h116x13) hb_112x12 (o116x13 _ (by omega)) (o116x13 _ (by omega))
    have hn_116x13 := Nw.same (h' := h116x13) hn_112x12 (fun q z1 z2 => o116x13 q (by omega))
    have hF_116x13 : Fo h116x13 (x + 48) (x + 1) (decide (kd &&& 1 = 1)) := (o116x13 _ (by omega)).trans hF_112x12
    have hsva_116x13 := Va.same (h' := h116x13) hsva_112x12 (fun q z1 z2 => o116x13 q (by omega))
    have hsv_116x13 := Sv.out (h' := h116x13) hsv_112x12 (fun q z1 z2 => o116x13 q (by omega))
    refine T_dup (pc := 119) d_OW_init_119 rfl ?_
    refine T_aload_n (pc := 120) d_OW_init_120 rfl ?_
    refine T_get (pc := 121) d_OW_init_121 sF_OW_37_OW g112x12_116x13 rfl ?_
    refine T_aload_n (pc := 124) d_OW_init_124 rfl ?_
    refine T_ivI (pc := 125) d_OW_init_125 sI_OW_58 (c_Client_init (c := x + 66) (w := x + 11) (fm := x + 48) g116x13) rfl rfl ⟨(Nat.le_of_ble_eq_true rfl), (Nat.le_of_ble_eq_true rfl)⟩ ⟨(Nat.le_of_ble_eq_true rfl), (Nat.le_of_ble_eq_true rfl)⟩ (Nat.le_of_ble_eq_true rfl) (fun r8 h8 q8 => ?_)
    obtain ⟨rfl, f8, o8⟩ := q8
    have fr_8 : ∀ q, q < x → h8 q = h q := fun q z => (o8 q (by omega)).trans (fr_116x13 q z)
    have hs_8 := Sc.same (h' := h8) hs_116x13 (fun q z1 z2 => o8 q (by omega))
    have hva_8 := Va.same (h' := h8) hva_116x13 (fun q z1 z2 => o8 q (by omega))
    have hb_8 := By.same (h' := h8) hb_116x13 (o8 _ (by omega)) (o8 _ (by omega))
    have hn_8 := Nw.same (h' := h8) hn_116x13 (fun q z1 z2 => o8 q (by omega))
    have hF_8 : Fo h8 (x + 48) (x + 1) (decide (kd &&& 1 = 1)) := (o8 _ (by omega)).trans hF_116x13
    have hsva_8 := Va.same (h' := h8) hsva_116x13 (fun q z1 z2 => o8 q (by omega))
    have hsv_8 := Sv.out (h' := h8) hsv_116x13 (fun q z1 z2 => o8 q (by omega))
    have g112x12_8 := (o8 x (by omega)).trans g112x12_116x13
    refine T_putF (pc := 128) d_OW_init_128 sFF_OW_61_OW rfl g112x12_8 (Nat.le_of_ble_eq_true rfl) (a_fit_o _ _) (T_up (fun h128x14 g128x14 o128x14 => ?_))
    have fr_128x14 : ∀ q, q < x → h128x14 q = h q := fun q z => (o128x14 q (by omega)).trans (fr_8 q z)
    have hs_128x14 := Sc.same (h' := h128x14) hs_8 (fun q z1 z2 => o128x14 q (by omega))
    have hva_128x14 := Va.same (h' := h128x14) hva_8 (fun q z1 z2 => o128x14 q (by omega))
    have hb_128x14 := By.same (h' := h128x14) hb_8 (o128x14 _ (by omega)) (o128x14 _ (by omega))
    have hn_128x14 := Nw.same (h' := h128x14) hn_8 (fun q z1 z2 => o128x14 q (by omega))
    have hF_128x14 : Fo h128x14 (x + 48) (x + 1) (decide (kd &&& 1 = 1)) := (o128x14 _ (by omega)).trans hF_8
    have hsva_128x14 := Va.same (h' := h128x14) hsva_8 (fun q z1 z2 => o128x14 q (by omega))
    have hsv_128x14 := Sv.out (h' := h128x14) hsv_8 (fun q z1 z2 => o128x14 q (by omega))
    have hc_128x14 := Cl.same (h' := h128x14) f8 (fun q z1 z2 => o128x14 q (by omega))
    refine T_vret (pc := 131) d_OW_init_131 rfl rfl (by decide) ?_
    exact ⟨rfl, ⟨g128x14, hs_128x14, hva_128x14, hb_128x14, ⟨_, hn_128x14⟩, hF_128x14, hsv_128x14, ⟨_, hsva_128x14⟩, ⟨_, hc_128x14⟩, fun m hm => absurd hm List.not_mem_nil⟩, fr_128x14⟩
  · refine T_new (pc := 62) d_OW_init_62 sN_OW_41 (Nat.le_of_ble_eq_true rfl) (Nat.le_of_ble_eq_true rfl) (T_up (fun h62x15 g62x15 o62x15 => ?_))
    have g52x8_62x15 := (o62x15 x (by omega)).trans g52x8
    have fr_62x15 : ∀ q, q < x → h62x15 q = h q := fun q z => (o62x15 q (by omega)).trans (fr_52x8 q z)
    have hs_62x15 := Sc.same (h' := h62x15) hs_52x8 (fun q z1 z2 => o62x15 q (by omega))
    have hva_62x15 := Va.same (h' := h62x15) hva_52x8 (fun q z1 z2 => o62x15 q (by omega))
    have hb_62x15 := By.same (h' := h62x15) hb_52x8 (o62x15 _ (by omega)) (o62x15 _ (by omega))
    have hn_62x15 := Nw.same (h' := h62x15) hn_52x8 (fun q z1 z2 => o62x15 q (by omega))
    refine T_dup (pc := 65) d_OW_init_65 rfl ?_
    refine T_aload_n (pc := 66) d_OW_init_66 rfl ?_
    refine T_get (pc := 67) d_OW_init_67 sF_OW_10_OW g52x8_62x15 rfl ?_
    refine T_ivI (pc := 70) d_OW_init_70 sI_OW_43 (c_WordFormat_init (a := x + 48) (sa := x + 1) g62x15) rfl rfl ⟨(Nat.le_of_ble_eq_true rfl), (Nat.le_of_ble_eq_true rfl)⟩ ⟨(Nat.le_of_ble_eq_true rfl), (Nat.le_of_ble_eq_true rfl)⟩ (Nat.le_of_ble_eq_true rfl) (fun r5 h5 q5 => ?_)
    obtain ⟨rfl, f5, o5⟩ := q5
    have fr_5 : ∀ q, q < x → h5 q = h q := fun q z => (o5 q (by omega)).trans (fr_62x15 q z)
    have hs_5 := Sc.same (h' := h5) hs_62x15 (fun q z1 z2 => o5 q (by omega))
    have hva_5 := Va.same (h' := h5) hva_62x15 (fun q z1 z2 => o5 q (by omega))
    have hb_5 := By.same (h' := h5) hb_62x15 (o5 _ (by omega)) (o5 _ (by omega))
    have hn_5 := Nw.same (h' := h5) hn_62x15 (fun q z1 z2 => o5 q (by omega))
    have g52x8_5 := (o5 x (by omega)).trans g52x8_62x15
    have ff5 : Fo h5 (x + 48) (x + 1) (decide (kd &&& 1 = 1)) := by
      unfold Fo
      rw [show decide (kd &&& 1 = 1) = true by simpa using q59]
      exact f5
    refine T_goto (tgt := 87) (pc := 73) d_OW_init_73 (by decide) ?_
    refine T_astore_n (pc := 87) d_OW_init_87 rfl (Nat.le_of_ble_eq_true rfl) rfl ?_
    refine T_aload_n (pc := 88) d_OW_init_88 rfl ?_
    refine T_new (pc := 89) d_OW_init_89 sN_OW_47 (Nat.le_of_ble_eq_true rfl) (Nat.le_of_ble_eq_true rfl) (T_up (fun h89x16 g89x16 o89x16 => ?_))
    have g52x8_89x16 := (o89x16 x (by omega)).trans g52x8_5
    have fr_89x16 : ∀ q, q < x → h89x16 q = h q := fun q z => (o89x16 q (by omega)).trans (fr_5 q z)
    have hs_89x16 := Sc.same (h' := h89x16) hs_5 (fun q z1 z2 => o89x16 q (by omega))
    have hva_89x16 := Va.same (h' := h89x16) hva_5 (fun q z1 z2 => o89x16 q (by omega))
    have hb_89x16 := By.same (h' := h89x16) hb_5 (o89x16 _ (by omega)) (o89x16 _ (by omega))
    have hn_89x16 := Nw.same (h' := h89x16) hn_5 (fun q z1 z2 => o89x16 q (by omega))
    have hF_89x16 : Fo h89x16 (x + 48) (x + 1) (decide (kd &&& 1 = 1)) := (o89x16 _ (by omega)).trans ff5
    refine T_dup (pc := 92) d_OW_init_92 rfl ?_
    refine T_aload_n (pc := 93) d_OW_init_93 rfl ?_
    refine T_get (pc := 94) d_OW_init_94 sF_OW_37_OW g52x8_89x16 rfl ?_
    refine T_aload_n (pc := 97) d_OW_init_97 rfl ?_
    refine T_new (pc := 98) d_OW_init_98 sN_OW_16 (Nat.le_of_ble_eq_true rfl) (Nat.le_of_ble_eq_true rfl) (T_up (fun h98x17 g98x17 o98x17 => ?_))
    have g52x8_98x17 := (o98x17 x (by omega)).trans g52x8_89x16
    have g89x16_98x17 := (o98x17 (x + 49) (by omega)).trans g89x16
    have fr_98x17 : ∀ q, q < x → h98x17 q = h q := fun q z => (o98x17 q (by omega)).trans (fr_89x16 q z)
    have hs_98x17 := Sc.same (h' := h98x17) hs_89x16 (fun q z1 z2 => o98x17 q (by omega))
    have hva_98x17 := Va.same (h' := h98x17) hva_89x16 (fun q z1 z2 => o98x17 q (by omega))
    have hb_98x17 := By.same (h' := h98x17) hb_89x16 (o98x17 _ (by omega)) (o98x17 _ (by omega))
    have hn_98x17 := Nw.same (h' := h98x17) hn_89x16 (fun q z1 z2 => o98x17 q (by omega))
    have hF_98x17 : Fo h98x17 (x + 48) (x + 1) (decide (kd &&& 1 = 1)) := (o98x17 _ (by omega)).trans hF_89x16
    refine T_dup (pc := 101) d_OW_init_101 rfl ?_
    refine T_aload_n (pc := 102) d_OW_init_102 rfl ?_
    refine T_get (pc := 103) d_OW_init_103 sF_OW_10_OW g52x8_98x17 rfl ?_
    refine T_ivI (pc := 106) d_OW_init_106 sI_OW_18 (c_Value_init (v := x + 49 + 1) (sa := x + 1) g98x17) rfl rfl ⟨(Nat.le_of_ble_eq_true rfl), (Nat.le_of_ble_eq_true rfl)⟩ ⟨(Nat.le_of_ble_eq_true rfl), (Nat.le_of_ble_eq_true rfl)⟩ (Nat.le_of_ble_eq_true rfl) (fun r6 h6 q6 => ?_)
    obtain ⟨rfl, f6, o6⟩ := q6
    have fr_6 : ∀ q, q < x → h6 q = h q := fun q z => (o6 q (by omega)).trans (fr_98x17 q z)
    have hs_6 := Sc.same (h' := h6) hs_98x17 (fun q z1 z2 => o6 q (by omega))
    have hva_6 := Va.same (h' := h6) hva_98x17 (fun q z1 z2 => o6 q (by omega))
    have hb_6 := By.same (h' := h6) hb_98x17 (o6 _ (by omega)) (o6 _ (by omega))
    have hn_6 := Nw.same (h' := h6) hn_98x17 (fun q z1 z2 => o6 q (by omega))
    have hF_6 : Fo h6 (x + 48) (x + 1) (decide (kd &&& 1 = 1)) := (o6 _ (by omega)).trans hF_98x17
    have g52x8_6 := (o6 x (by omega)).trans g52x8_98x17
    have g89x16_6 := (o6 (x + 49) (by omega)).trans g89x16_98x17
    refine T_ivI (pc := 109) d_OW_init_109 sI_OW_49 (c_Server_init (s := x + 49) (w := x + 11) (fm := x + 48) g89x16_6) rfl rfl ⟨(Nat.le_of_ble_eq_true rfl), (Nat.le_of_ble_eq_true rfl)⟩ ⟨(Nat.le_of_ble_eq_true rfl), (Nat.le_of_ble_eq_true rfl)⟩ (Nat.le_of_ble_eq_true rfl) (fun r7 h7 q7 => ?_)
    obtain ⟨rfl, f7, o7⟩ := q7
    have fr_7 : ∀ q, q < x → h7 q = h q := fun q z => (o7 q (by omega)).trans (fr_6 q z)
    have hs_7 := Sc.same (h' := h7) hs_6 (fun q z1 z2 => o7 q (by omega))
    have hva_7 := Va.same (h' := h7) hva_6 (fun q z1 z2 => o7 q (by omega))
    have hb_7 := By.same (h' := h7) hb_6 (o7 _ (by omega)) (o7 _ (by omega))
    have hn_7 := Nw.same (h' := h7) hn_6 (fun q z1 z2 => o7 q (by omega))
    have hF_7 : Fo h7 (x + 48) (x + 1) (decide (kd &&& 1 = 1)) := (o7 _ (by omega)).trans hF_6
    have hsva_7 := Va.same (h' := h7) f6 (fun q z1 z2 => o7 q (by omega))
    have g52x8_7 := (o7 x (by omega)).trans g52x8_6
    refine T_putF (pc := 112) d_OW_init_112 sFF_OW_52_OW rfl g52x8_7 (Nat.le_of_ble_eq_true rfl) (a_fit_o _ _) (T_up (fun h112x18 g112x18 o112x18 => ?_))
    have fr_112x18 : ∀ q, q < x → h112x18 q = h q := fun q z => (o112x18 q (by omega)).trans (fr_7 q z)
    have hs_112x18 := Sc.same (h' := h112x18) hs_7 (fun q z1 z2 => o112x18 q (by omega))
    have hva_112x18 := Va.same (h' := h112x18) hva_7 (fun q z1 z2 => o112x18 q (by omega))
    have hb_112x18 := By.same (h' := h112x18) hb_7 (o112x18 _ (by omega)) (o112x18 _ (by omega))
    have hn_112x18 := Nw.same (h' := h112x18) hn_7 (fun q z1 z2 => o112x18 q (by omega))
    have hF_112x18 : Fo h112x18 (x + 48) (x + 1) (decide (kd &&& 1 = 1)) := (o112x18 _ (by omega)).trans hF_7
    have hsva_112x18 := Va.same (h' := h112x18) hsva_7 (fun q z1 z2 => o112x18 q (by omega))
    have hsv_112x18 := Sv.out (h' := h112x18) f7 (fun q z1 z2 => o112x18 q (by omega))
    refine T_aload_n (pc := 115) d_OW_init_115 rfl ?_
    refine T_new (pc := 116) d_OW_init_116 sN_OW_56 (Nat.le_of_ble_eq_true rfl) (Nat.le_of_ble_eq_true rfl) (T_up (fun h116x19 g116x19 o116x19 => ?_))
    have g112x18_116x19 := (o116x19 x (by omega)).trans g112x18
    have fr_116x19 : ∀ q, q < x → h116x19 q = h q := fun q z => (o116x19 q (by omega)).trans (fr_112x18 q z)
    have hs_116x19 := Sc.same (h' := h116x19) hs_112x18 (fun q z1 z2 => o116x19 q (by omega))
    have hva_116x19 := Va.same (h' := h116x19) hva_112x18 (fun q z1 z2 => o116x19 q (by omega))
    have hb_116x19 := By.same (h' := h116x19) hb_112x18 (o116x19 _ (by omega)) (o116x19 _ (by omega))
    have hn_116x19 := Nw.same (h' := h116x19) hn_112x18 (fun q z1 z2 => o116x19 q (by omega))
    have hF_116x19 : Fo h116x19 (x + 48) (x + 1) (decide (kd &&& 1 = 1)) := (o116x19 _ (by omega)).trans hF_112x18
    have hsva_116x19 := Va.same (h' := h116x19) hsva_112x18 (fun q z1 z2 => o116x19 q (by omega))
    have hsv_116x19 := Sv.out (h' := h116x19) hsv_112x18 (fun q z1 z2 => o116x19 q (by omega))
    refine T_dup (pc := 119) d_OW_init_119 rfl ?_
    refine T_aload_n (pc := 120) d_OW_init_120 rfl ?_
    refine T_get (pc := 121) d_OW_init_121 sF_OW_37_OW g112x18_116x19 rfl ?_
    refine T_aload_n (pc := 124) d_OW_init_124 rfl ?_
    refine T_ivI (pc := 125) d_OW_init_125 sI_OW_58 (c_Client_init (c := x + 66) (w := x + 11) (fm := x + 48) g116x19) rfl rfl ⟨(Nat.le_of_ble_eq_true rfl), (Nat.le_of_ble_eq_true rfl)⟩ ⟨(Nat.le_of_ble_eq_true rfl), (Nat.le_of_ble_eq_true rfl)⟩ (Nat.le_of_ble_eq_true rfl) (fun r8 h8 q8 => ?_)
    obtain ⟨rfl, f8, o8⟩ := q8
    have fr_8 : ∀ q, q < x → h8 q = h q := fun q z => (o8 q (by omega)).trans (fr_116x19 q z)
    have hs_8 := Sc.same (h' := h8) hs_116x19 (fun q z1 z2 => o8 q (by omega))
    have hva_8 := Va.same (h' := h8) hva_116x19 (fun q z1 z2 => o8 q (by omega))
    have hb_8 := By.same (h' := h8) hb_116x19 (o8 _ (by omega)) (o8 _ (by omega))
    have hn_8 := Nw.same (h' := h8) hn_116x19 (fun q z1 z2 => o8 q (by omega))
    have hF_8 : Fo h8 (x + 48) (x + 1) (decide (kd &&& 1 = 1)) := (o8 _ (by omega)).trans hF_116x19
    have hsva_8 := Va.same (h' := h8) hsva_116x19 (fun q z1 z2 => o8 q (by omega))
    have hsv_8 := Sv.out (h' := h8) hsv_116x19 (fun q z1 z2 => o8 q (by omega))
    have g112x18_8 := (o8 x (by omega)).trans g112x18_116x19
    refine T_putF (pc := 128) d_OW_init_128 sFF_OW_61_OW rfl g112x18_8 (Nat.le_of_ble_eq_true rfl) (a_fit_o _ _) (T_up (fun h128x20 g128x20 o128x20 => ?_))
    have fr_128x20 : ∀ q, q < x → h128x20 q = h q := fun q z => (o128x20 q (by omega)).trans (fr_8 q z)
    have hs_128x20 := Sc.same (h' := h128x20) hs_8 (fun q z1 z2 => o128x20 q (by omega))
    have hva_128x20 := Va.same (h' := h128x20) hva_8 (fun q z1 z2 => o128x20 q (by omega))
    have hb_128x20 := By.same (h' := h128x20) hb_8 (o128x20 _ (by omega)) (o128x20 _ (by omega))
    have hn_128x20 := Nw.same (h' := h128x20) hn_8 (fun q z1 z2 => o128x20 q (by omega))
    have hF_128x20 : Fo h128x20 (x + 48) (x + 1) (decide (kd &&& 1 = 1)) := (o128x20 _ (by omega)).trans hF_8
    have hsva_128x20 := Va.same (h' := h128x20) hsva_8 (fun q z1 z2 => o128x20 q (by omega))
    have hsv_128x20 := Sv.out (h' := h128x20) hsv_8 (fun q z1 z2 => o128x20 q (by omega))
    have hc_128x20 := Cl.same (h' := h128x20) f8 (fun q z1 z2 => o128x20 q (by omega))
    refine T_vret (pc := 131) d_OW_init_131 rfl rfl (by decide) ?_
    exact ⟨rfl, ⟨g128x20, hs_128x20, hva_128x20, hb_128x20, ⟨_, hn_128x20⟩, hF_128x20, hsv_128x20, ⟨_, hsva_128x20⟩, ⟨_, hc_128x20⟩, fun m hm => absurd hm List.not_mem_nil⟩, fr_128x20⟩
