/-! Server and Client: their cells, their making. -/
abbrev Kn : Type := Int32 × List Int32
def Sv (h : aH) (s w fm : Nat) (sl : List Kn) (old : Nat) (tot run : Int32) : Prop := (sl.length ≤ 4 ∧ old < 4 ∧ (sl.length < 4 → old = 0)) ∧ (∃ g : Nat → Int32, h s = some (.inr (6, [.ref w, .ref fm, .ref (s + 1), .ref (s + 4), .ref (s + 6), .ref (s + 7), .ref (s + 8), .int (nI sl.length), .int (nI old), .int tot, .int run])) ∧ h (s + 7) = some (.inl (.int, 4, .inl g)) ∧ h (s + 8) = some (.inl (a_tB, 4, .inr (fun j => (rws (s + 8) 4)[j]?))) ∧ ∀ (i : Nat) (m : Kn), sl[i]? = some m → g i = m.1 ∧ By h (s + 8 + 2 * i + 1) 20 m.2) ∧ (∀ i, i < 4 → ∃ l, By h (s + 8 + 2 * i + 1) 20 l) ∧ (∃ l, By h (s + 4) 200 l) ∧ ∃ p f, Rd h (s + 6) (s + 4) p f
abbrev Pd : Type := Int32 × Int32 × List Int32
def Cl (h : aH) (c w fm : Nat) (cs : List (Int32 × Int32)) (ps : List Pd) (ads : List Nat) : Prop := (cs.length ≤ 100 ∧ ps.length ≤ 8 ∧ ads.length = 8 ∧ ads.Nodup ∧ ∀ q, q ∈ ads → c + 8 ≤ q ∧ q ≤ c + 22 ∧ (q - c) % 2 = 0) ∧ (∃ gs gr gx ga : Nat → Int32, h c = some (.inr (2, [.ref w, .ref fm, .ref (c + 1), .ref (c + 3), .ref (c + 4), .int (nI cs.length), .ref (c + 5), .ref (c + 6), .ref (c + 7), .int (nI ps.length)])) ∧ h (c + 3) = some (.inl (.int, 100, .inl gs)) ∧ h (c + 4) = some (.inl (.int, 100, .inl gr)) ∧ h (c + 5) = some (.inl (.int, 8, .inl gx)) ∧ h (c + 6) = some (.inl (.int, 8, .inl ga)) ∧ h (c + 7) = some (.inl (a_tB, 8, .inr (fun j => ads[j]?))) ∧ (∀ (i : Nat) (m : Int32 × Int32), cs[i]? = some m → gs i = m.1 ∧ gr i = m.2) ∧ (∀ i, cs.length ≤ i → i < 100 → gr i = 0) ∧ ∀ (i : Nat) (m : Pd), ps[i]? = some m → gx i = m.1 ∧ ga i = m.2.1) ∧ (∀ q, q ∈ ads → ∃ l, By h q 156 l) ∧ (∀ (i : Nat) (m : Pd) (q : Nat), ps[i]? = some m → ads[i]? = some q → By h q 156 m.2.2) ∧ ∃ l, By h (c + 1) 200 l
set_option maxRecDepth 100000 in
set_option maxHeartbeats 4000000 in
theorem c_Format_init_TaggedFormat {n a sa : Nat} {h : aH} (hX : h a = some (.inr (7, [.null]))) : Con M_Format_init 1 0 0 n [.ref a, .ref sa] h (fun r h' => r = none ∧ h' a = some (.inr (7, [.ref sa])) ∧ ∀ q, q ≠ a → h' q = h q) := by
  refine Con.of rfl (Nat.le_of_ble_eq_true rfl) ?_
  refine T_aload_n (pc := 0) d_Format_init_0 rfl ?_
  refine T_objInit (pc := 1) d_Format_init_1 sI_Format_1 ⟨(Nat.le_of_ble_eq_true rfl), (Nat.le_of_ble_eq_true rfl)⟩ (Nat.le_of_ble_eq_true rfl) ?_
  refine T_aload_n (pc := 4) d_Format_init_4 rfl ?_
  refine T_aload_n (pc := 5) d_Format_init_5 rfl ?_
  refine T_putF (pc := 6) d_Format_init_6 sFF_Format_7_TaggedFormat rfl hX (Nat.le_of_ble_eq_true rfl) (a_fit_o _ _) (T_up (fun h6x1 g6x1 o6x1 => ?_))
  refine T_vret (pc := 9) d_Format_init_9 rfl rfl (Nat.le_refl _) ?_
  exact ⟨rfl, g6x1, o6x1⟩
set_option maxRecDepth 100000 in
set_option maxHeartbeats 4000000 in
theorem c_TaggedFormat_init {n a sa : Nat} {h : aH} (hX : h a = some (.inr (7, [.null]))) : Con M_TaggedFormat_init 2 0 0 n [.ref a, .ref sa] h (fun r h' => r = none ∧ h' a = some (.inr (7, [.ref sa])) ∧ ∀ q, q ≠ a → h' q = h q) := by
  refine Con.of rfl (Nat.le_of_ble_eq_true rfl) ?_
  refine T_aload_n (pc := 0) d_TaggedFormat_init_0 rfl ?_
  refine T_aload_n (pc := 1) d_TaggedFormat_init_1 rfl ?_
  refine T_ivI (pc := 2) d_TaggedFormat_init_2 sI_TaggedFormat_3 (c_Format_init_TaggedFormat hX) rfl rfl ⟨(Nat.le_of_ble_eq_true rfl), (Nat.le_of_ble_eq_true rfl)⟩ ⟨(Nat.le_of_ble_eq_true rfl), (Nat.le_of_ble_eq_true rfl)⟩ (Nat.le_of_ble_eq_true rfl) (fun r1 h1 q1 => ?_)
  obtain ⟨rfl, hX1, o1⟩ := q1
  refine T_vret (pc := 5) d_TaggedFormat_init_5 rfl rfl (Nat.le_refl _) ?_
  exact ⟨rfl, hX1, o1⟩
set_option maxRecDepth 100000 in
set_option maxHeartbeats 4000000 in
theorem c_Format_init_WordFormat {n a sa : Nat} {h : aH} (hX : h a = some (.inr (9, [.null]))) : Con M_Format_init 1 0 0 n [.ref a, .ref sa] h (fun r h' => r = none ∧ h' a = some (.inr (9, [.ref sa])) ∧ ∀ q, q ≠ a → h' q = h q) := by
  refine Con.of rfl (Nat.le_of_ble_eq_true rfl) ?_
  refine T_aload_n (pc := 0) d_Format_init_0 rfl ?_
  refine T_objInit (pc := 1) d_Format_init_1 sI_Format_1 ⟨(Nat.le_of_ble_eq_true rfl), (Nat.le_of_ble_eq_true rfl)⟩ (Nat.le_of_ble_eq_true rfl) ?_
  refine T_aload_n (pc := 4) d_Format_init_4 rfl ?_
  refine T_aload_n (pc := 5) d_Format_init_5 rfl ?_
  refine T_putF (pc := 6) d_Format_init_6 sFF_Format_7_WordFormat rfl hX (Nat.le_of_ble_eq_true rfl) (a_fit_o _ _) (T_up (fun h6x1 g6x1 o6x1 => ?_))
  refine T_vret (pc := 9) d_Format_init_9 rfl rfl (Nat.le_refl _) ?_
  exact ⟨rfl, g6x1, o6x1⟩
set_option maxRecDepth 100000 in
set_option maxHeartbeats 4000000 in
theorem c_WordFormat_init {n a sa : Nat} {h : aH} (hX : h a = some (.inr (9, [.null]))) : Con M_WordFormat_init 2 0 0 n [.ref a, .ref sa] h (fun r h' => r = none ∧ h' a = some (.inr (9, [.ref sa])) ∧ ∀ q, q ≠ a → h' q = h q) := by
  refine Con.of rfl (Nat.le_of_ble_eq_true rfl) ?_
  refine T_aload_n (pc := 0) d_WordFormat_init_0 rfl ?_
  refine T_aload_n (pc := 1) d_WordFormat_init_1 rfl ?_
  refine T_ivI (pc := 2) d_WordFormat_init_2 sI_WordFormat_1 (c_Format_init_WordFormat hX) rfl rfl ⟨(Nat.le_of_ble_eq_true rfl), (Nat.le_of_ble_eq_true rfl)⟩ ⟨(Nat.le_of_ble_eq_true rfl), (Nat.le_of_ble_eq_true rfl)⟩ (Nat.le_of_ble_eq_true rfl) (fun r1 h1 q1 => ?_)
  obtain ⟨rfl, hX1, o1⟩ := q1
  refine T_vret (pc := 5) d_WordFormat_init_5 rfl rfl (Nat.le_refl _) ?_
  exact ⟨rfl, hX1, o1⟩
set_option maxRecDepth 100000 in
set_option maxHeartbeats 4000000 in
theorem c_Server_init_loop {s w fm : Nat} {Z : aZ} : ∀ (k i : Nat) (h : aH), i + k = 4 → h s = some (.inr (6, [.ref w, .ref fm, .ref (s + 1), .ref (s + 4), .ref (s + 6), .ref (s + 7), .ref (s + 8), .int 0, .int 0, .int 0, .int 0])) → h (s + 8) = some (.inl (a_tB, 4, .inr (fun j => (rws (s + 8) i)[j]?))) → (∀ t, t < i → By h ((s + 8) + 2 * t + 1) 20 []) → (∀ h', h' (s + 8) = some (.inl (a_tB, 4, .inr (fun j => (rws (s + 8) 4)[j]?))) → (∀ t, t < 4 → By h' ((s + 8) + 2 * t + 1) 20 []) → (∀ q, q ≤ (s + 8) → q ≠ (s + 8) → h' q = h q) → Tri M_Server_init (a_rm 2 13 301) Z 118 [(4, .int 4), (0, .ref s)] [] ((s + 8) + 2 * 4) h' (5 + 2 * 4) (213 + 22 * 4)) → Tri M_Server_init (a_rm 2 13 301) Z 86 [(4, .int (nI i)), (0, .ref s)] [] ((s + 8) + 2 * i) h (5 + 2 * i) (213 + 22 * i) := by
  intro k
  induction k with
  | zero =>
    intro i h hik hX hA hB hK
    have hi : i = 4 := by omega
    subst hi
    refine T_iload (pc := 86) d_Server_init_86 rfl ?_
    refine T_aload_n (pc := 88) d_Server_init_88 rfl ?_
    refine T_get (pc := 89) d_Server_init_89 sF_Server_33_Server hX rfl ?_
    refine T_alen (pc := 92) d_Server_init_92 hA (Or.inr (Or.inr rfl)) ?_
    refine T_icmp_ge (tgt := 118) (pc := 93) d_Server_init_93 (by decide) (fun q93 => ?_) (fun q93 => ?_)
    · exact hK h hA hB (fun _ _ _ => rfl)
    · exact absurd (nI_le (a := 4) (b := 4) (Nat.le_refl _) (by decide)) q93
  | succ k ih =>
    intro i h hik hX hA hB hK
    refine T_iload (pc := 86) d_Server_init_86 rfl ?_
    refine T_aload_n (pc := 88) d_Server_init_88 rfl ?_
    refine T_get (pc := 89) d_Server_init_89 sF_Server_33_Server hX rfl ?_
    refine T_alen (pc := 92) d_Server_init_92 hA (Or.inr (Or.inr rfl)) ?_
    refine T_icmp_ge (tgt := 118) (pc := 93) d_Server_init_93 (by decide) (fun q93 => ?_) (fun q93 => ?_)
    · exact absurd q93 (nI_ge (b := 4) (by omega) (by decide))
    · refine T_aload_n (pc := 96) d_Server_init_96 rfl ?_
      refine T_get (pc := 97) d_Server_init_97 sF_Server_33_Server hX rfl ?_
      refine T_iload (pc := 100) d_Server_init_100 rfl ?_
      refine T_new (pc := 102) d_Server_init_102 sN_Server_9 (by show 5 + 2 * i + 1 ≤ 13; omega) (by show 213 + 22 * i + 2 ≤ 301; omega) (T_up (fun h1 g1 o1 => ?_))
      have hX1 := (o1 s (by omega)).trans hX
      have hA1 := (o1 (s + 8) (by omega)).trans hA
      refine T_dup (pc := 105) d_Server_init_105 rfl ?_
      refine T_bipush (v := 20) (pc := 106) d_Server_init_106 rfl ?_
      refine T_ivI (pc := 108) d_Server_init_108 sI_Server_11 (c_Bytes_init (cap := 20) g1 (by decide)) rfl rfl ⟨(Nat.le_of_ble_eq_true rfl), (Nat.le_of_ble_eq_true rfl)⟩ ⟨by show 5 + 2 * i + 1 + 1 ≤ 13; omega, by show 213 + 22 * i + 2 + 20 ≤ 301; omega⟩ (Nat.le_of_ble_eq_true rfl) (fun r2 h2 q2 => ?_)
      obtain ⟨rfl, hb2, o2⟩ := q2
      have hX2 := (o2 s (by omega) (by omega)).trans hX1
      have hA2 := (o2 (s + 8) (by omega) (by omega)).trans hA1
      refine T_aast (pc := 111) d_Server_init_111 hA2 hb2.obj rfl rfl (vp_in_nI (by omega) (by decide)) (T_up (fun h3 g3 o3 => ?_))
      refine T_iinc (pc := 112) d_Server_init_112 rfl (nI_1 i) (Nat.le_of_ble_eq_true rfl) rfl ?_
      refine T_goto (tgt := 86) (pc := 115) d_Server_init_115 (by decide) (T_num (n' := (s + 8) + 2 * (i + 1)) (cells' := 5 + 2 * (i + 1)) (slots' := 213 + 22 * (i + 1)) (by omega) (by omega) (by omega) ?_)
      rw [nI_clamp (by omega)] at g3
      have g4 : h3 (s + 8) = some (.inl (a_tB, 4, .inr (fun j => (rws (s + 8) (i + 1))[j]?))) := by
        rw [g3]
        exact congrArg (fun z => some (Sum.inl (a_tB, 4, Sum.inr z))) (rws_s (s + 8) i)
      refine ih (i + 1) h3 (by omega) ((o3 s (by omega)).trans hX2) g4 (fun t ht => ?_) (fun h' k1 k2 k3 => hK h' k1 k2 (fun q z1 z2 => (k3 q z1 z2).trans ((o3 q z2).trans ((o2 q (by omega) (by omega)).trans (o1 q (by omega))))))
      by_cases hti : t = i
      · subst hti
        exact hb2.same (o3 _ (by omega)) (o3 _ (by omega))
      · have hb := hB t (by omega)
        exact hb.same ((o3 _ (by omega)).trans ((o2 _ (by omega) (by omega)).trans (o1 _ (by omega)))) ((o3 _ (by omega)).trans ((o2 _ (by omega) (by omega)).trans (o1 _ (by omega))))
set_option maxRecDepth 100000 in
set_option maxHeartbeats 4000000 in
theorem c_Server_init {s w fm : Nat} {h : aH} (hX : h s = some (.inr (6, [.null, .null, .null, .null, .null, .null, .null, .int 0, .int 0, .int 0, .int 0]))) : Con M_Server_init 2 13 301 (s + 3) [.ref s, .ref w, .ref fm, .ref (s + 1)] h (fun r h' => r = none ∧ Sv h' s w fm [] 0 0 0 ∧ ∀ q, q < s ∨ q = s + 1 ∨ q = s + 2 ∨ q = s + 3 → h' q = h q) := by
  refine Con.of rfl (Nat.le_of_ble_eq_true rfl) ?_
  refine T_aload_n (pc := 0) d_Server_init_0 rfl ?_
  refine T_objInit (pc := 1) d_Server_init_1 sI_Server_3 ⟨(Nat.le_of_ble_eq_true rfl), (Nat.le_of_ble_eq_true rfl)⟩ (Nat.le_of_ble_eq_true rfl) ?_
  refine T_aload_n (pc := 4) d_Server_init_4 rfl ?_
  refine T_new (pc := 5) d_Server_init_5 sN_Server_9 (Nat.le_of_ble_eq_true rfl) (Nat.le_of_ble_eq_true rfl) (T_up (fun h5x1 g5x1 o5x1 => ?_))
  have hX_5x1 := (o5x1 s (by omega)).trans hX
  refine T_dup (pc := 8) d_Server_init_8 rfl ?_
  refine T_sipush (v := 200) (pc := 9) d_Server_init_9 rfl ?_
  refine T_ivI (pc := 12) d_Server_init_12 sI_Server_11 (c_Bytes_init (cap := 200) g5x1 (by decide)) rfl rfl ⟨(Nat.le_of_ble_eq_true rfl), (Nat.le_of_ble_eq_true rfl)⟩ ⟨(Nat.le_of_ble_eq_true rfl), (Nat.le_of_ble_eq_true rfl)⟩ (Nat.le_of_ble_eq_true rfl) (fun r1 h1 q1 => ?_)
  obtain ⟨rfl, hb1, o1⟩ := q1
  have hX1 := (o1 s (by omega) (by omega)).trans hX_5x1
  refine T_putF (pc := 15) d_Server_init_15 sFF_Server_14_Server rfl hX1 (Nat.le_of_ble_eq_true rfl) (a_fit_o _ _) (T_up (fun h15x2 g15x2 o15x2 => ?_))
  refine T_aload_n (pc := 18) d_Server_init_18 rfl ?_
  refine T_new (pc := 19) d_Server_init_19 sN_Server_20 (Nat.le_of_ble_eq_true rfl) (Nat.le_of_ble_eq_true rfl) (T_up (fun h19x3 g19x3 o19x3 => ?_))
  have g15x2_19x3 := (o19x3 s (by omega)).trans g15x2
  refine T_dup (pc := 22) d_Server_init_22 rfl ?_
  refine T_aload_n (pc := 23) d_Server_init_23 rfl ?_
  refine T_get (pc := 24) d_Server_init_24 sF_Server_14_Server g15x2_19x3 rfl ?_
  refine T_ivI (pc := 27) d_Server_init_27 sI_Server_22 (c_Reader_init g19x3) rfl rfl ⟨(Nat.le_of_ble_eq_true rfl), (Nat.le_of_ble_eq_true rfl)⟩ ⟨(Nat.le_of_ble_eq_true rfl), (Nat.le_of_ble_eq_true rfl)⟩ (Nat.le_of_ble_eq_true rfl) (fun r2 h2 q2 => ?_)
  obtain ⟨rfl, hr2, o2⟩ := q2
  have hX2 := (o2 s (by omega)).trans g15x2_19x3
  refine T_putF (pc := 30) d_Server_init_30 sFF_Server_25_Server rfl hX2 (Nat.le_of_ble_eq_true rfl) (a_fit_o _ _) (T_up (fun h30x4 g30x4 o30x4 => ?_))
  refine T_aload_n (pc := 33) d_Server_init_33 rfl ?_
  refine T_iconst (v := 4) (pc := 34) d_Server_init_34 rfl ?_
  refine T_newi (pc := 35) d_Server_init_35 (Ws_at (i := 5) (k := 30) rfl rfl) (by decide) rfl (by decide) (Nat.le_of_ble_eq_true rfl) (Nat.le_of_ble_eq_true rfl) (T_up (fun h35x5 g35x5 o35x5 => ?_))
  have g30x4_35x5 := (o35x5 s (by omega)).trans g30x4
  refine T_putF (pc := 37) d_Server_init_37 sFF_Server_29_Server rfl g30x4_35x5 (Nat.le_of_ble_eq_true rfl) (a_fit_a _ _) (T_up (fun h37x6 g37x6 o37x6 => ?_))
  have g35x5_37x6 := (o37x6 (s + 7) (by omega)).trans g35x5
  refine T_aload_n (pc := 40) d_Server_init_40 rfl ?_
  refine T_iconst (v := 4) (pc := 41) d_Server_init_41 rfl ?_
  refine T_newq (pc := 42) d_Server_init_42 (Ws_at (i := 6) (k := 49) rfl rfl) (List.mem_of_getElem? (i := 5) rfl) (by decide) rfl (by decide) (Nat.le_of_ble_eq_true rfl) (Nat.le_of_ble_eq_true rfl) (T_up (fun h42x7 g42x7 o42x7 => ?_))
  have g37x6_42x7 := (o42x7 s (by omega)).trans g37x6
  have g35x5_42x7 := (o42x7 (s + 7) (by omega)).trans g35x5_37x6
  refine T_putF (pc := 45) d_Server_init_45 sFF_Server_33_Server rfl g37x6_42x7 (Nat.le_of_ble_eq_true rfl) (a_fit_a _ _) (T_up (fun h45x8 g45x8 o45x8 => ?_))
  have g35x5_45x8 := (o45x8 (s + 7) (by omega)).trans g35x5_42x7
  have g42x7_45x8 := (o45x8 (s + 8) (by omega)).trans g42x7
  refine T_aload_n (pc := 48) d_Server_init_48 rfl ?_
  refine T_iconst (v := 0) (pc := 49) d_Server_init_49 rfl ?_
  refine T_put (pc := 50) d_Server_init_50 sF_Server_37_Server g45x8 (Nat.le_of_ble_eq_true rfl) (a_fit_i _) (T_up (fun h50x9 g50x9 o50x9 => ?_))
  have g35x5_50x9 := (o50x9 (s + 7) (by omega)).trans g35x5_45x8
  have g42x7_50x9 := (o50x9 (s + 8) (by omega)).trans g42x7_45x8
  refine T_aload_n (pc := 53) d_Server_init_53 rfl ?_
  refine T_iconst (v := 0) (pc := 54) d_Server_init_54 rfl ?_
  refine T_put (pc := 55) d_Server_init_55 sF_Server_41_Server g50x9 (Nat.le_of_ble_eq_true rfl) (a_fit_i _) (T_up (fun h55x10 g55x10 o55x10 => ?_))
  have g35x5_55x10 := (o55x10 (s + 7) (by omega)).trans g35x5_50x9
  have g42x7_55x10 := (o55x10 (s + 8) (by omega)).trans g42x7_50x9
  refine T_aload_n (pc := 58) d_Server_init_58 rfl ?_
  refine T_iconst (v := 0) (pc := 59) d_Server_init_59 rfl ?_
  refine T_put (pc := 60) d_Server_init_60 sF_Server_44_Server g55x10 (Nat.le_of_ble_eq_true rfl) (a_fit_i _) (T_up (fun h60x11 g60x11 o60x11 => ?_))
  have g35x5_60x11 := (o60x11 (s + 7) (by omega)).trans g35x5_55x10
  have g42x7_60x11 := (o60x11 (s + 8) (by omega)).trans g42x7_55x10
  refine T_aload_n (pc := 63) d_Server_init_63 rfl ?_
  refine T_iconst (v := 0) (pc := 64) d_Server_init_64 rfl ?_
  refine T_put (pc := 65) d_Server_init_65 sF_Server_47_Server g60x11 (Nat.le_of_ble_eq_true rfl) (a_fit_i _) (T_up (fun h65x12 g65x12 o65x12 => ?_))
  have g35x5_65x12 := (o65x12 (s + 7) (by omega)).trans g35x5_60x11
  have g42x7_65x12 := (o65x12 (s + 8) (by omega)).trans g42x7_60x11
  refine T_aload_n (pc := 68) d_Server_init_68 rfl ?_
  refine T_aload_n (pc := 69) d_Server_init_69 rfl ?_
  refine T_putF (pc := 70) d_Server_init_70 sFF_Server_50_Server rfl g65x12 (Nat.le_of_ble_eq_true rfl) (a_fit_o _ _) (T_up (fun h70x13 g70x13 o70x13 => ?_))
  have g35x5_70x13 := (o70x13 (s + 7) (by omega)).trans g35x5_65x12
  have g42x7_70x13 := (o70x13 (s + 8) (by omega)).trans g42x7_65x12
  refine T_aload_n (pc := 73) d_Server_init_73 rfl ?_
  refine T_aload_n (pc := 74) d_Server_init_74 rfl ?_
  refine T_putF (pc := 75) d_Server_init_75 sFF_Server_54_Server rfl g70x13 (Nat.le_of_ble_eq_true rfl) (a_fit_o _ _) (T_up (fun h75x14 g75x14 o75x14 => ?_))
  have g35x5_75x14 := (o75x14 (s + 7) (by omega)).trans g35x5_70x13
  have g42x7_75x14 := (o75x14 (s + 8) (by omega)).trans g42x7_70x13
  refine T_aload_n (pc := 78) d_Server_init_78 rfl ?_
  refine T_aload_n (pc := 79) d_Server_init_79 rfl ?_
  refine T_putF (pc := 80) d_Server_init_80 sFF_Server_58_Server rfl g75x14 (Nat.le_of_ble_eq_true rfl) (a_fit_o _ _) (T_up (fun h80x15 g80x15 o80x15 => ?_))
  have g35x5_80x15 := (o80x15 (s + 7) (by omega)).trans g35x5_75x14
  have g42x7_80x15 := (o80x15 (s + 8) (by omega)).trans g42x7_75x14
  refine T_iconst (v := 0) (pc := 83) d_Server_init_83 rfl ?_
  refine T_istore (pc := 84) d_Server_init_84 (Nat.le_of_ble_eq_true rfl) rfl ?_
  have hrec : By h80x15 (s + 4) 200 [] := hb1.same (by rw [o80x15 (s + 4) (by omega), o75x14 (s + 4) (by omega), o70x13 (s + 4) (by omega), o65x12 (s + 4) (by omega), o60x11 (s + 4) (by omega), o55x10 (s + 4) (by omega), o50x9 (s + 4) (by omega), o45x8 (s + 4) (by omega), o42x7 (s + 4) (by omega), o37x6 (s + 4) (by omega), o35x5 (s + 4) (by omega), o30x4 (s + 4) (by omega), o2 (s + 4) (by omega), o19x3 (s + 4) (by omega), o15x2 (s + 4) (by omega)]) (by rw [o80x15 (s + 4 + 1) (by omega), o75x14 (s + 4 + 1) (by omega), o70x13 (s + 4 + 1) (by omega), o65x12 (s + 4 + 1) (by omega), o60x11 (s + 4 + 1) (by omega), o55x10 (s + 4 + 1) (by omega), o50x9 (s + 4 + 1) (by omega), o45x8 (s + 4 + 1) (by omega), o42x7 (s + 4 + 1) (by omega), o37x6 (s + 4 + 1) (by omega), o35x5 (s + 4 + 1) (by omega), o30x4 (s + 4 + 1) (by omega), o2 (s + 4 + 1) (by omega), o19x3 (s + 4 + 1) (by omega), o15x2 (s + 4 + 1) (by omega)])
  have hrd : Rd h80x15 (s + 6) (s + 4) 0 false := by
    unfold Rd at *
    rw [o80x15 (s + 6) (by omega), o75x14 (s + 6) (by omega), o70x13 (s + 6) (by omega), o65x12 (s + 6) (by omega), o60x11 (s + 6) (by omega), o55x10 (s + 6) (by omega), o50x9 (s + 6) (by omega), o45x8 (s + 6) (by omega), o42x7 (s + 6) (by omega), o37x6 (s + 6) (by omega), o35x5 (s + 6) (by omega), o30x4 (s + 6) (by omega)]
    exact hr2
  have hfr : ∀ q, q < s ∨ q = s + 1 ∨ q = s + 2 ∨ q = s + 3 → h80x15 q = h q := fun q hq => by
    rw [o80x15 q (by omega), o75x14 q (by omega), o70x13 q (by omega), o65x12 q (by omega), o60x11 q (by omega), o55x10 q (by omega), o50x9 q (by omega), o45x8 q (by omega), o42x7 q (by omega), o37x6 q (by omega), o35x5 q (by omega), o30x4 q (by omega), o2 q (by omega), o19x3 q (by omega), o15x2 q (by omega), o1 q (by omega) (by omega), o5x1 q (by omega)]
  refine T_loc [0, 1] rfl (T_num (n' := s + 8 + 2 * 0) (cells' := 5 + 2 * 0) (slots' := 213 + 22 * 0) rfl rfl rfl ?_)
  refine c_Server_init_loop (w := w) (fm := fm) 4 0 h80x15 rfl g80x15 g42x7_80x15 (fun t ht => absurd ht (Nat.not_lt_zero t)) (fun h5 k1 k2 k3 => ?_)
  refine T_vret (pc := 118) d_Server_init_118 rfl rfl (by decide) ?_
  refine ⟨rfl, ⟨⟨by decide, by decide, fun _ => rfl⟩, ⟨_, (k3 s (by omega) (by omega)).trans g80x15, (k3 (s + 7) (by omega) (by omega)).trans g35x5_80x15, k1, fun i m hm => by simp at hm⟩, fun i hi => ⟨[], k2 i hi⟩, ⟨[], hrec.same (k3 _ (by omega) (by omega)) (k3 _ (by omega) (by omega))⟩, ⟨0, false, (k3 _ (by omega) (by omega)).trans hrd⟩⟩, fun q hq => (k3 q (by omega) (by omega)).trans (hfr q hq)⟩
set_option maxRecDepth 100000 in
set_option maxHeartbeats 4000000 in
theorem c_Client_init_loop {c w fm : Nat} {Z : aZ} : ∀ (k i : Nat) (h : aH), i + k = 8 → h c = some (.inr (2, [.ref w, .ref fm, .ref (c + 1), .ref (c + 3), .ref (c + 4), .int 0, .ref (c + 5), .ref (c + 6), .ref (c + 7), .int 0])) → h (c + 7) = some (.inl (a_tB, 8, .inr (fun j => (rws (c + 7) i)[j]?))) → (∀ t, t < i → By h ((c + 7) + 2 * t + 1) 156 []) → (∀ h', h' (c + 7) = some (.inl (a_tB, 8, .inr (fun j => (rws (c + 7) 8)[j]?))) → (∀ t, t < 8 → By h' ((c + 7) + 2 * t + 1) 156 []) → (∀ q, q ≤ (c + 7) → q ≠ (c + 7) → h' q = h q) → Tri M_Client_init (a_rm 2 23 1690) Z 112 [(3, .int 8), (0, .ref c)] [] ((c + 7) + 2 * 8) h' (7 + 2 * 8) (426 + 158 * 8)) → Tri M_Client_init (a_rm 2 23 1690) Z 81 [(3, .int (nI i)), (0, .ref c)] [] ((c + 7) + 2 * i) h (7 + 2 * i) (426 + 158 * i) := by
  intro k
  induction k with
  | zero =>
    intro i h hik hX hA hB hK
    have hi : i = 8 := by omega
    subst hi
    refine T_iload_n (pc := 81) d_Client_init_81 rfl ?_
    refine T_aload_n (pc := 82) d_Client_init_82 rfl ?_
    refine T_get (pc := 83) d_Client_init_83 sF_Client_37_Client hX rfl ?_
    refine T_alen (pc := 86) d_Client_init_86 hA (Or.inr (Or.inr rfl)) ?_
    refine T_icmp_ge (tgt := 112) (pc := 87) d_Client_init_87 (by decide) (fun q87 => ?_) (fun q87 => ?_)
    · exact hK h hA hB (fun _ _ _ => rfl)
    · exact absurd (nI_le (a := 8) (b := 8) (Nat.le_refl _) (by decide)) q87
  | succ k ih =>
    intro i h hik hX hA hB hK
    refine T_iload_n (pc := 81) d_Client_init_81 rfl ?_
    refine T_aload_n (pc := 82) d_Client_init_82 rfl ?_
    refine T_get (pc := 83) d_Client_init_83 sF_Client_37_Client hX rfl ?_
    refine T_alen (pc := 86) d_Client_init_86 hA (Or.inr (Or.inr rfl)) ?_
    refine T_icmp_ge (tgt := 112) (pc := 87) d_Client_init_87 (by decide) (fun q87 => ?_) (fun q87 => ?_)
    · exact absurd q87 (nI_ge (b := 8) (by omega) (by decide))
    · refine T_aload_n (pc := 90) d_Client_init_90 rfl ?_
      refine T_get (pc := 91) d_Client_init_91 sF_Client_37_Client hX rfl ?_
      refine T_iload_n (pc := 94) d_Client_init_94 rfl ?_
      refine T_new (pc := 95) d_Client_init_95 sN_Client_9 (by show 7 + 2 * i + 1 ≤ 23; omega) (by show 426 + 158 * i + 2 ≤ 1690; omega) (T_up (fun h1 g1 o1 => ?_))
      have hX1 := (o1 c (by omega)).trans hX
      have hA1 := (o1 (c + 7) (by omega)).trans hA
      refine T_dup (pc := 98) d_Client_init_98 rfl ?_
      refine T_sipush (v := 156) (pc := 99) d_Client_init_99 rfl ?_
      refine T_ivI (pc := 102) d_Client_init_102 sI_Client_11 (c_Bytes_init (cap := 156) g1 (by decide)) rfl rfl ⟨(Nat.le_of_ble_eq_true rfl), (Nat.le_of_ble_eq_true rfl)⟩ ⟨by show 7 + 2 * i + 1 + 1 ≤ 23; omega, by show 426 + 158 * i + 2 + 156 ≤ 1690; omega⟩ (Nat.le_of_ble_eq_true rfl) (fun r2 h2 q2 => ?_)
      obtain ⟨rfl, hb2, o2⟩ := q2
      have hX2 := (o2 c (by omega) (by omega)).trans hX1
      have hA2 := (o2 (c + 7) (by omega) (by omega)).trans hA1
      refine T_aast (pc := 105) d_Client_init_105 hA2 hb2.obj rfl rfl (vp_in_nI (by omega) (by decide)) (T_up (fun h3 g3 o3 => ?_))
      refine T_iinc (pc := 106) d_Client_init_106 rfl (nI_1 i) (Nat.le_of_ble_eq_true rfl) rfl ?_
      refine T_goto (tgt := 81) (pc := 109) d_Client_init_109 (by decide) (T_num (n' := (c + 7) + 2 * (i + 1)) (cells' := 7 + 2 * (i + 1)) (slots' := 426 + 158 * (i + 1)) (by omega) (by omega) (by omega) ?_)
      rw [nI_clamp (by omega)] at g3
      have g4 : h3 (c + 7) = some (.inl (a_tB, 8, .inr (fun j => (rws (c + 7) (i + 1))[j]?))) := by
        rw [g3]
        exact congrArg (fun z => some (Sum.inl (a_tB, 8, Sum.inr z))) (rws_s (c + 7) i)
      refine ih (i + 1) h3 (by omega) ((o3 c (by omega)).trans hX2) g4 (fun t ht => ?_) (fun h' k1 k2 k3 => hK h' k1 k2 (fun q z1 z2 => (k3 q z1 z2).trans ((o3 q z2).trans ((o2 q (by omega) (by omega)).trans (o1 q (by omega))))))
      by_cases hti : t = i
      · subst hti
        exact hb2.same (o3 _ (by omega)) (o3 _ (by omega))
      · have hb := hB t (by omega)
        exact hb.same ((o3 _ (by omega)).trans ((o2 _ (by omega) (by omega)).trans (o1 _ (by omega)))) ((o3 _ (by omega)).trans ((o2 _ (by omega) (by omega)).trans (o1 _ (by omega))))
set_option maxRecDepth 100000 in
set_option maxHeartbeats 4000000 in
theorem c_Client_init {c w fm : Nat} {h : aH} (hX : h c = some (.inr (2, [.null, .null, .null, .null, .null, .int 0, .null, .null, .null, .int 0]))) : Con M_Client_init 2 23 1690 c [.ref c, .ref w, .ref fm] h (fun r h' => r = none ∧ Cl h' c w fm [] [] (rws (c + 7) 8) ∧ ∀ q, q < c → h' q = h q) := by
  refine Con.of rfl (Nat.le_of_ble_eq_true rfl) ?_
  refine T_aload_n (pc := 0) d_Client_init_0 rfl ?_
  refine T_objInit (pc := 1) d_Client_init_1 sI_Client_3 ⟨(Nat.le_of_ble_eq_true rfl), (Nat.le_of_ble_eq_true rfl)⟩ (Nat.le_of_ble_eq_true rfl) ?_
  refine T_aload_n (pc := 4) d_Client_init_4 rfl ?_
  refine T_new (pc := 5) d_Client_init_5 sN_Client_9 (Nat.le_of_ble_eq_true rfl) (Nat.le_of_ble_eq_true rfl) (T_up (fun h5x1 g5x1 o5x1 => ?_))
  have hX_5x1 := (o5x1 c (by omega)).trans hX
  refine T_dup (pc := 8) d_Client_init_8 rfl ?_
  refine T_sipush (v := 200) (pc := 9) d_Client_init_9 rfl ?_
  refine T_ivI (pc := 12) d_Client_init_12 sI_Client_11 (c_Bytes_init (cap := 200) g5x1 (by decide)) rfl rfl ⟨(Nat.le_of_ble_eq_true rfl), (Nat.le_of_ble_eq_true rfl)⟩ ⟨(Nat.le_of_ble_eq_true rfl), (Nat.le_of_ble_eq_true rfl)⟩ (Nat.le_of_ble_eq_true rfl) (fun r1 h1 q1 => ?_)
  obtain ⟨rfl, hb1, o1⟩ := q1
  have hX1 := (o1 c (by omega) (by omega)).trans hX_5x1
  refine T_putF (pc := 15) d_Client_init_15 sFF_Client_14_Client rfl hX1 (Nat.le_of_ble_eq_true rfl) (a_fit_o _ _) (T_up (fun h15x2 g15x2 o15x2 => ?_))
  refine T_aload_n (pc := 18) d_Client_init_18 rfl ?_
  refine T_bipush (v := 100) (pc := 19) d_Client_init_19 rfl ?_
  refine T_newi (pc := 21) d_Client_init_21 (Ws_at (i := 5) (k := 30) rfl rfl) (by decide) rfl (by decide) (Nat.le_of_ble_eq_true rfl) (Nat.le_of_ble_eq_true rfl) (T_up (fun h21x3 g21x3 o21x3 => ?_))
  have g15x2_21x3 := (o21x3 c (by omega)).trans g15x2
  refine T_putF (pc := 23) d_Client_init_23 sFF_Client_20_Client rfl g15x2_21x3 (Nat.le_of_ble_eq_true rfl) (a_fit_a _ _) (T_up (fun h23x4 g23x4 o23x4 => ?_))
  have g21x3_23x4 := (o23x4 (c + 3) (by omega)).trans g21x3
  refine T_aload_n (pc := 26) d_Client_init_26 rfl ?_
  refine T_bipush (v := 100) (pc := 27) d_Client_init_27 rfl ?_
  refine T_newi (pc := 29) d_Client_init_29 (Ws_at (i := 5) (k := 30) rfl rfl) (by decide) rfl (by decide) (Nat.le_of_ble_eq_true rfl) (Nat.le_of_ble_eq_true rfl) (T_up (fun h29x5 g29x5 o29x5 => ?_))
  have g23x4_29x5 := (o29x5 c (by omega)).trans g23x4
  have g21x3_29x5 := (o29x5 (c + 3) (by omega)).trans g21x3_23x4
  refine T_putF (pc := 31) d_Client_init_31 sFF_Client_24_Client rfl g23x4_29x5 (Nat.le_of_ble_eq_true rfl) (a_fit_a _ _) (T_up (fun h31x6 g31x6 o31x6 => ?_))
  have g21x3_31x6 := (o31x6 (c + 3) (by omega)).trans g21x3_29x5
  have g29x5_31x6 := (o31x6 (c + 4) (by omega)).trans g29x5
  refine T_aload_n (pc := 34) d_Client_init_34 rfl ?_
  refine T_iconst (v := 0) (pc := 35) d_Client_init_35 rfl ?_
  refine T_put (pc := 36) d_Client_init_36 sF_Client_27_Client g31x6 (Nat.le_of_ble_eq_true rfl) (a_fit_i _) (T_up (fun h36x7 g36x7 o36x7 => ?_))
  have g21x3_36x7 := (o36x7 (c + 3) (by omega)).trans g21x3_31x6
  have g29x5_36x7 := (o36x7 (c + 4) (by omega)).trans g29x5_31x6
  refine T_aload_n (pc := 39) d_Client_init_39 rfl ?_
  refine T_bipush (v := 8) (pc := 40) d_Client_init_40 rfl ?_
  refine T_newi (pc := 42) d_Client_init_42 (Ws_at (i := 5) (k := 30) rfl rfl) (by decide) rfl (by decide) (Nat.le_of_ble_eq_true rfl) (Nat.le_of_ble_eq_true rfl) (T_up (fun h42x8 g42x8 o42x8 => ?_))
  have g36x7_42x8 := (o42x8 c (by omega)).trans g36x7
  have g21x3_42x8 := (o42x8 (c + 3) (by omega)).trans g21x3_36x7
  have g29x5_42x8 := (o42x8 (c + 4) (by omega)).trans g29x5_36x7
  refine T_putF (pc := 44) d_Client_init_44 sFF_Client_31_Client rfl g36x7_42x8 (Nat.le_of_ble_eq_true rfl) (a_fit_a _ _) (T_up (fun h44x9 g44x9 o44x9 => ?_))
  have g21x3_44x9 := (o44x9 (c + 3) (by omega)).trans g21x3_42x8
  have g29x5_44x9 := (o44x9 (c + 4) (by omega)).trans g29x5_42x8
  have g42x8_44x9 := (o44x9 (c + 5) (by omega)).trans g42x8
  refine T_aload_n (pc := 47) d_Client_init_47 rfl ?_
  refine T_bipush (v := 8) (pc := 48) d_Client_init_48 rfl ?_
  refine T_newi (pc := 50) d_Client_init_50 (Ws_at (i := 5) (k := 30) rfl rfl) (by decide) rfl (by decide) (Nat.le_of_ble_eq_true rfl) (Nat.le_of_ble_eq_true rfl) (T_up (fun h50x10 g50x10 o50x10 => ?_))
  have g44x9_50x10 := (o50x10 c (by omega)).trans g44x9
  have g21x3_50x10 := (o50x10 (c + 3) (by omega)).trans g21x3_44x9
  have g29x5_50x10 := (o50x10 (c + 4) (by omega)).trans g29x5_44x9
  have g42x8_50x10 := (o50x10 (c + 5) (by omega)).trans g42x8_44x9
  refine T_putF (pc := 52) d_Client_init_52 sFF_Client_34_Client rfl g44x9_50x10 (Nat.le_of_ble_eq_true rfl) (a_fit_a _ _) (T_up (fun h52x11 g52x11 o52x11 => ?_))
  have g21x3_52x11 := (o52x11 (c + 3) (by omega)).trans g21x3_50x10
  have g29x5_52x11 := (o52x11 (c + 4) (by omega)).trans g29x5_50x10
  have g42x8_52x11 := (o52x11 (c + 5) (by omega)).trans g42x8_50x10
  have g50x10_52x11 := (o52x11 (c + 6) (by omega)).trans g50x10
  refine T_aload_n (pc := 55) d_Client_init_55 rfl ?_
  refine T_bipush (v := 8) (pc := 56) d_Client_init_56 rfl ?_
  refine T_newq (pc := 58) d_Client_init_58 (Ws_at (i := 5) (k := 47) rfl rfl) (List.mem_of_getElem? (i := 5) rfl) (by decide) rfl (by decide) (Nat.le_of_ble_eq_true rfl) (Nat.le_of_ble_eq_true rfl) (T_up (fun h58x12 g58x12 o58x12 => ?_))
  have g52x11_58x12 := (o58x12 c (by omega)).trans g52x11
  have g21x3_58x12 := (o58x12 (c + 3) (by omega)).trans g21x3_52x11
  have g29x5_58x12 := (o58x12 (c + 4) (by omega)).trans g29x5_52x11
  have g42x8_58x12 := (o58x12 (c + 5) (by omega)).trans g42x8_52x11
  have g50x10_58x12 := (o58x12 (c + 6) (by omega)).trans g50x10_52x11
  refine T_putF (pc := 61) d_Client_init_61 sFF_Client_37_Client rfl g52x11_58x12 (Nat.le_of_ble_eq_true rfl) (a_fit_a _ _) (T_up (fun h61x13 g61x13 o61x13 => ?_))
  have g21x3_61x13 := (o61x13 (c + 3) (by omega)).trans g21x3_58x12
  have g29x5_61x13 := (o61x13 (c + 4) (by omega)).trans g29x5_58x12
  have g42x8_61x13 := (o61x13 (c + 5) (by omega)).trans g42x8_58x12
  have g50x10_61x13 := (o61x13 (c + 6) (by omega)).trans g50x10_58x12
  have g58x12_61x13 := (o61x13 (c + 7) (by omega)).trans g58x12
  refine T_aload_n (pc := 64) d_Client_init_64 rfl ?_
  refine T_iconst (v := 0) (pc := 65) d_Client_init_65 rfl ?_
  refine T_put (pc := 66) d_Client_init_66 sF_Client_41_Client g61x13 (Nat.le_of_ble_eq_true rfl) (a_fit_i _) (T_up (fun h66x14 g66x14 o66x14 => ?_))
  have g21x3_66x14 := (o66x14 (c + 3) (by omega)).trans g21x3_61x13
  have g29x5_66x14 := (o66x14 (c + 4) (by omega)).trans g29x5_61x13
  have g42x8_66x14 := (o66x14 (c + 5) (by omega)).trans g42x8_61x13
  have g50x10_66x14 := (o66x14 (c + 6) (by omega)).trans g50x10_61x13
  have g58x12_66x14 := (o66x14 (c + 7) (by omega)).trans g58x12_61x13
  refine T_aload_n (pc := 69) d_Client_init_69 rfl ?_
  refine T_aload_n (pc := 70) d_Client_init_70 rfl ?_
  refine T_putF (pc := 71) d_Client_init_71 sFF_Client_44_Client rfl g66x14 (Nat.le_of_ble_eq_true rfl) (a_fit_o _ _) (T_up (fun h71x15 g71x15 o71x15 => ?_))
  have g21x3_71x15 := (o71x15 (c + 3) (by omega)).trans g21x3_66x14
  have g29x5_71x15 := (o71x15 (c + 4) (by omega)).trans g29x5_66x14
  have g42x8_71x15 := (o71x15 (c + 5) (by omega)).trans g42x8_66x14
  have g50x10_71x15 := (o71x15 (c + 6) (by omega)).trans g50x10_66x14
  have g58x12_71x15 := (o71x15 (c + 7) (by omega)).trans g58x12_66x14
  refine T_aload_n (pc := 74) d_Client_init_74 rfl ?_
  refine T_aload_n (pc := 75) d_Client_init_75 rfl ?_
  refine T_putF (pc := 76) d_Client_init_76 sFF_Client_48_Client rfl g71x15 (Nat.le_of_ble_eq_true rfl) (a_fit_o _ _) (T_up (fun h76x16 g76x16 o76x16 => ?_))
  have g21x3_76x16 := (o76x16 (c + 3) (by omega)).trans g21x3_71x15
  have g29x5_76x16 := (o76x16 (c + 4) (by omega)).trans g29x5_71x15
  have g42x8_76x16 := (o76x16 (c + 5) (by omega)).trans g42x8_71x15
  have g50x10_76x16 := (o76x16 (c + 6) (by omega)).trans g50x10_71x15
  have g58x12_76x16 := (o76x16 (c + 7) (by omega)).trans g58x12_71x15
  refine T_iconst (v := 0) (pc := 79) d_Client_init_79 rfl ?_
  refine T_istore_n (pc := 80) d_Client_init_80 rfl (Nat.le_of_ble_eq_true rfl) rfl ?_
  have hrec : By h76x16 (c + 1) 200 [] := hb1.same (by rw [o76x16 (c + 1) (by omega), o71x15 (c + 1) (by omega), o66x14 (c + 1) (by omega), o61x13 (c + 1) (by omega), o58x12 (c + 1) (by omega), o52x11 (c + 1) (by omega), o50x10 (c + 1) (by omega), o44x9 (c + 1) (by omega), o42x8 (c + 1) (by omega), o36x7 (c + 1) (by omega), o31x6 (c + 1) (by omega), o29x5 (c + 1) (by omega), o23x4 (c + 1) (by omega), o21x3 (c + 1) (by omega), o15x2 (c + 1) (by omega)]) (by rw [o76x16 (c + 1 + 1) (by omega), o71x15 (c + 1 + 1) (by omega), o66x14 (c + 1 + 1) (by omega), o61x13 (c + 1 + 1) (by omega), o58x12 (c + 1 + 1) (by omega), o52x11 (c + 1 + 1) (by omega), o50x10 (c + 1 + 1) (by omega), o44x9 (c + 1 + 1) (by omega), o42x8 (c + 1 + 1) (by omega), o36x7 (c + 1 + 1) (by omega), o31x6 (c + 1 + 1) (by omega), o29x5 (c + 1 + 1) (by omega), o23x4 (c + 1 + 1) (by omega), o21x3 (c + 1 + 1) (by omega), o15x2 (c + 1 + 1) (by omega)])
  have hfr : ∀ q, q < c → h76x16 q = h q := fun q hq => by
    rw [o76x16 q (by omega), o71x15 q (by omega), o66x14 q (by omega), o61x13 q (by omega), o58x12 q (by omega), o52x11 q (by omega), o50x10 q (by omega), o44x9 q (by omega), o42x8 q (by omega), o36x7 q (by omega), o31x6 q (by omega), o29x5 q (by omega), o23x4 q (by omega), o21x3 q (by omega), o15x2 q (by omega), o1 q (by omega) (by omega), o5x1 q (by omega)]
  refine T_loc [0, 1] rfl (T_num (n' := c + 7 + 2 * 0) (cells' := 7 + 2 * 0) (slots' := 426 + 158 * 0) rfl rfl rfl ?_)
  refine c_Client_init_loop (w := w) (fm := fm) 8 0 h76x16 rfl g76x16 g58x12_76x16 (fun t ht => absurd ht (Nat.not_lt_zero t)) (fun h5 k1 k2 k3 => ?_)
  refine T_vret (pc := 112) d_Client_init_112 rfl rfl (by decide) ?_
  refine ⟨rfl, ⟨⟨by decide, by decide, rws_len _ _, rws_nodup _ _, fun q hq => ?_⟩, ⟨_, _, _, _, (k3 c (by omega) (by omega)).trans g76x16, (k3 (c + 3) (by omega) (by omega)).trans g21x3_76x16, (k3 (c + 4) (by omega) (by omega)).trans g29x5_76x16, (k3 (c + 5) (by omega) (by omega)).trans g42x8_76x16, (k3 (c + 6) (by omega) (by omega)).trans g50x10_76x16, k1, fun i m hm => by simp at hm, fun i _ _ => rfl, fun i m hm => by simp at hm⟩, fun q hq => ?_, fun i m q hm => by simp at hm, ⟨[], hrec.same (k3 _ (by omega) (by omega)) (k3 _ (by omega) (by omega))⟩⟩, fun q hq => (k3 q (by omega) (by omega)).trans (hfr q hq)⟩
  · obtain ⟨t, ht, rfl⟩ := rws_in hq
    omega
  · obtain ⟨t, ht, rfl⟩ := rws_in hq
    exact ⟨[], k2 t ht⟩
