/-! OnceWire$Reader. -/
def Rd (h : aH) (a src p : Nat) (f : Bool) : Prop := h a = some (.inr (4, [.ref src, .int (nI p), .int (bI f)]))
def tkF (w : Int32) (xs : List Int32) : Int32 := xs.foldl (fun w b => w <<< ((8 : Int32) &&& 31) ||| b) w
def rv : Nat → Nat → Int64 → List Int32 → Option (Int64 × Nat)
  | 0, _, _, _ => none
  | _ + 1, _, _, [] => none
  | k + 1, i, acc, b :: t => if b < 128 then some (acc ||| ((b &&& 127).toInt64 <<< ((7 * nI i).toInt64 &&& 63)), 1) else (rv k (i + 1) (acc ||| ((b &&& 127).toInt64 <<< ((7 * nI i).toInt64 &&& 63))) t).map (fun q => (q.1, q.2 + 1))
set_option maxRecDepth 100000 in
set_option maxHeartbeats 4000000 in
theorem c_Reader_init {n a src : Nat} {h : aH} (hR : h a = some (.inr (4, [.null, .int 0, .int 0]))) : Con M_Reader_init 1 0 0 n [.ref a, .ref src] h (fun r h' => r = none ∧ Rd h' a src 0 false ∧ ∀ q, q ≠ a → h' q = h q) := by
  refine Con.of rfl (Nat.le_of_ble_eq_true rfl) ?_
  refine T_aload_n (pc := 0) d_Reader_init_0 rfl ?_
  refine T_objInit (pc := 1) d_Reader_init_1 sI_Reader_1 ⟨(Nat.le_of_ble_eq_true rfl), (Nat.le_of_ble_eq_true rfl)⟩ (Nat.le_of_ble_eq_true rfl) ?_
  refine T_aload_n (pc := 4) d_Reader_init_4 rfl ?_
  refine T_aload_n (pc := 5) d_Reader_init_5 rfl ?_
  refine T_putF (pc := 6) d_Reader_init_6 sFF_Reader_7_Reader rfl hR (Nat.le_of_ble_eq_true rfl) (a_fit_o _ _) (T_up (fun h6x1 g6x1 o6x1 => ?_))
  refine T_aload_n (pc := 9) d_Reader_init_9 rfl ?_
  refine T_iconst (v := 0) (pc := 10) d_Reader_init_10 rfl ?_
  refine T_put (pc := 11) d_Reader_init_11 sF_Reader_13_Reader g6x1 (Nat.le_of_ble_eq_true rfl) (a_fit_i _) (T_up (fun h11x2 g11x2 o11x2 => ?_))
  refine T_aload_n (pc := 14) d_Reader_init_14 rfl ?_
  refine T_iconst (v := 0) (pc := 15) d_Reader_init_15 rfl ?_
  refine T_put (pc := 16) d_Reader_init_16 sF_Reader_17_Reader g11x2 (Nat.le_of_ble_eq_true rfl) (a_fit_z (by decide)) (T_up (fun h16x3 g16x3 o16x3 => ?_))
  refine T_vret (pc := 19) d_Reader_init_19 rfl rfl (Nat.le_refl _) ?_
  exact ⟨rfl, g16x3, fun q hq => (o16x3 q hq).trans ((o11x2 q hq).trans (o6x1 q hq))⟩
set_option maxRecDepth 100000 in
set_option maxHeartbeats 4000000 in
theorem c_Reader_startAt {n a src p i : Nat} {f : Bool} {h : aH} (hR : Rd h a src p f) (hi : i < 2 ^ 30) : Con M_Reader_startAt 1 0 0 n [.ref a, .int (nI i)] h (fun r h' => r = none ∧ Rd h' a src i false ∧ ∀ q, q ≠ a → h' q = h q) := by
  unfold Rd at *
  refine Con.of rfl (Nat.le_of_ble_eq_true rfl) ?_
  refine T_aload_n (pc := 0) d_Reader_startAt_0 rfl ?_
  refine T_iload_n (pc := 1) d_Reader_startAt_1 rfl ?_
  refine T_iconst (v := 0) (pc := 2) d_Reader_startAt_2 rfl ?_
  refine T_max (pc := 3) d_Reader_startAt_3 sI_Reader_21 ⟨(Nat.le_of_ble_eq_true rfl), (Nat.le_of_ble_eq_true rfl)⟩ ⟨(Nat.le_of_ble_eq_true rfl), (Nat.le_of_ble_eq_true rfl)⟩ (Nat.le_of_ble_eq_true rfl) ?_
  rw [if_neg (show ¬ nI i < 0 from nI_pos (by omega))]
  refine T_put (pc := 6) d_Reader_startAt_6 sF_Reader_13_Reader hR (Nat.le_of_ble_eq_true rfl) (a_fit_i _) (T_up (fun h6x1 g6x1 o6x1 => ?_))
  refine T_aload_n (pc := 9) d_Reader_startAt_9 rfl ?_
  refine T_iconst (v := 0) (pc := 10) d_Reader_startAt_10 rfl ?_
  refine T_put (pc := 11) d_Reader_startAt_11 sF_Reader_17_Reader g6x1 (Nat.le_of_ble_eq_true rfl) (a_fit_z (by decide)) (T_up (fun h11x2 g11x2 o11x2 => ?_))
  refine T_vret (pc := 14) d_Reader_startAt_14 rfl rfl (Nat.le_refl _) ?_
  exact ⟨rfl, g11x2, fun q hq => (o11x2 q hq).trans (o6x1 q hq)⟩
set_option maxRecDepth 100000 in
set_option maxHeartbeats 4000000 in
theorem c_Reader_left {n a src cap p : Nat} {h : aH} {f : Bool} {l : List Int32} (hR : Rd h a src p f) (hb : By h src cap l) (hc : cap < 2 ^ 30) (hp : p ≤ l.length) : Con M_Reader_left 0 0 0 n [.ref a] h (fun r h' => r = some (.int (nI (l.length - p))) ∧ h' = h) := by
  unfold Rd at *
  obtain ⟨fc, hB, hA, hl, hf⟩ := id hb
  have n1 : src ≠ a := fun e => by
    rw [e, hR] at hB
    cases hB
  have n2 : src + 1 ≠ a := fun e => by
    rw [e, hR] at hA
    cases hA
  refine Con.of rfl (Nat.le_of_ble_eq_true rfl) ?_
  refine T_aload_n (pc := 0) d_Reader_left_0 rfl ?_
  refine T_get (pc := 1) d_Reader_left_1 sF_Reader_7_Reader hR rfl ?_
  refine T_get (pc := 4) d_Reader_left_4 sF_Reader_27_Bytes hB rfl ?_
  refine T_aload_n (pc := 7) d_Reader_left_7 rfl ?_
  refine T_get (pc := 8) d_Reader_left_8 sF_Reader_13_Reader hR rfl ?_
  refine T_isub (pc := 11) d_Reader_left_11 ?_
  refine T_iret (pc := 12) d_Reader_left_12 rfl rfl (Nat.le_refl _) ?_
  exact ⟨by rw [pk_sub hp], rfl⟩
set_option maxRecDepth 100000 in
set_option maxHeartbeats 4000000 in
theorem c_Reader_takeWord_loop {n a src cap p0 : Nat} {f : Bool} {l : List Int32} {h0 : aH} {Q : aQ} (hc : cap < 2 ^ 30) (hp0 : p0 + 4 ≤ l.length) (n1 : src ≠ a) (n2 : src + 1 ≠ a) : ∀ (k i : Nat) (w : Int32) (h : aH), i + k = 4 → Rd h a src (p0 + i) f → By h src cap l → (∀ q, q ≠ a → h q = h0 q) → (∀ h', Rd h' a src (p0 + 4) f → (∀ q, q ≠ a → h' q = h0 q) → Q (some (.int (tkF w ((l.drop (p0 + i)).take k)))) h') → Tri M_Reader_takeWord (a_rm 0 0 0) (a_Z 0 0 Q) 27 [(2, .int (nI i)), (1, .int w), (0, .ref a)] [] n h 0 0 := by
  intro k
  induction k with
  | zero =>
    intro i w h hik hR hb hO hQ
    have hi : i = 4 := by omega
    subst hi
    refine T_iload_n (pc := 27) d_Reader_takeWord_27 rfl ?_
    refine T_iconst (v := 4) (pc := 28) d_Reader_takeWord_28 rfl ?_
    refine T_icmp_ge (tgt := 66) (pc := 29) d_Reader_takeWord_29 (by decide) (fun q29 => ?_) (fun q29 => ?_)
    · refine T_iload_n (pc := 66) d_Reader_takeWord_66 rfl ?_
      refine T_iret (pc := 67) d_Reader_takeWord_67 rfl rfl (Nat.le_refl _) ?_
      exact hQ h hR hO
    · exact absurd (show (4 : Int32) ≤ nI 4 by decide) q29
  | succ k ih =>
    intro i w h hik hR hb hO hQ
    unfold Rd at *
    have hle := hb.le
    obtain ⟨fc, hB, hA, hl, hf⟩ := id hb
    have e1 : l.drop (p0 + i) = fc (p0 + i) :: l.drop (p0 + (i + 1)) := by
      have hi2 : p0 + i < l.length := by omega
      have e3 := hf _ hi2
      rw [List.getElem?_eq_getElem hi2] at e3
      rw [List.drop_eq_getElem_cons hi2, Option.some.inj e3]
      rfl
    rw [e1, List.take_succ_cons] at hQ
    refine T_iload_n (pc := 27) d_Reader_takeWord_27 rfl ?_
    refine T_iconst (v := 4) (pc := 28) d_Reader_takeWord_28 rfl ?_
    refine T_icmp_ge (tgt := 66) (pc := 29) d_Reader_takeWord_29 (by decide) (fun q29 => ?_) (fun q29 => ?_)
    · exact absurd q29 (nI_ge (b := 4) (by omega) (by decide))
    · refine T_iload_n (pc := 32) d_Reader_takeWord_32 rfl ?_
      refine T_bipush (v := 8) (pc := 33) d_Reader_takeWord_33 rfl ?_
      refine T_ishl (pc := 35) d_Reader_takeWord_35 ?_
      refine T_aload_n (pc := 36) d_Reader_takeWord_36 rfl ?_
      refine T_get (pc := 37) d_Reader_takeWord_37 sF_Reader_7_Reader hR rfl ?_
      refine T_get (pc := 40) d_Reader_takeWord_40 sF_Reader_32_Bytes hB rfl ?_
      refine T_aload_n (pc := 43) d_Reader_takeWord_43 rfl ?_
      refine T_get (pc := 44) d_Reader_takeWord_44 sF_Reader_13_Reader hR rfl ?_
      refine T_iald (pc := 47) d_Reader_takeWord_47 hA (vp_in_nI (by omega) (by omega)) ?_
      refine T_ior (pc := 48) d_Reader_takeWord_48 ?_
      refine T_istore_n (pc := 49) d_Reader_takeWord_49 rfl (Nat.le_of_ble_eq_true rfl) rfl ?_
      refine T_aload_n (pc := 50) d_Reader_takeWord_50 rfl ?_
      refine T_dup (pc := 51) d_Reader_takeWord_51 rfl ?_
      refine T_get (pc := 52) d_Reader_takeWord_52 sF_Reader_13_Reader hR rfl ?_
      refine T_iconst (v := 1) (pc := 55) d_Reader_takeWord_55 rfl ?_
      refine T_iadd (pc := 56) d_Reader_takeWord_56 ?_
      refine T_put (pc := 57) d_Reader_takeWord_57 sF_Reader_13_Reader hR (Nat.le_of_ble_eq_true rfl) (a_fit_i _) (T_up (fun h57x1 g57x1 o57x1 => ?_))
      have hB_57x1 := (o57x1 src n1).trans hB
      have hA_57x1 := (o57x1 (src + 1) n2).trans hA
      refine T_iinc (pc := 60) d_Reader_takeWord_60 rfl (nI_1 i) (Nat.le_of_ble_eq_true rfl) rfl ?_
      refine T_goto (tgt := 27) (pc := 63) d_Reader_takeWord_63 (by decide) ?_
      have g2 : h57x1 a = some (.inr (4, [.ref src, .int (nI (p0 + (i + 1))), .int (bI f)])) := by
        rw [g57x1, nI_1]
        rfl
      rw [nI_clamp (by omega)]
      exact ih (i + 1) _ _ (by omega) g2 (hb.same (o57x1 src n1) (o57x1 (src + 1) n2)) (fun q hq => (o57x1 q hq).trans (hO q hq)) hQ
set_option maxRecDepth 100000 in
set_option maxHeartbeats 4000000 in
theorem c_Reader_takeWord {n a src cap p : Nat} {h : aH} {f : Bool} {l : List Int32} (hR : Rd h a src p f) (hb : By h src cap l) (hc : cap < 2 ^ 30) (hp : p ≤ l.length) : Con M_Reader_takeWord 0 0 0 n [.ref a] h (fun r h' => (∀ q, q ≠ a → h' q = h q) ∧ if l.length < p + 4 then r = some (.int 0) ∧ Rd h' a src p true else r = some (.int (tkF 0 ((l.drop p).take 4))) ∧ Rd h' a src (p + 4) f) := by
  unfold Rd at *
  obtain ⟨fc, hB, hA, hl, hf⟩ := id hb
  have n1 : src ≠ a := fun e => by
    rw [e, hR] at hB
    cases hB
  have n2 : src + 1 ≠ a := fun e => by
    rw [e, hR] at hA
    cases hA
  refine Con.of rfl (Nat.le_of_ble_eq_true rfl) ?_
  refine T_aload_n (pc := 0) d_Reader_takeWord_0 rfl ?_
  refine T_get (pc := 1) d_Reader_takeWord_1 sF_Reader_7_Reader hR rfl ?_
  refine T_get (pc := 4) d_Reader_takeWord_4 sF_Reader_27_Bytes hB rfl ?_
  refine T_aload_n (pc := 7) d_Reader_takeWord_7 rfl ?_
  refine T_get (pc := 8) d_Reader_takeWord_8 sF_Reader_13_Reader hR rfl ?_
  refine T_isub (pc := 11) d_Reader_takeWord_11 ?_
  refine T_iconst (v := 4) (pc := 12) d_Reader_takeWord_12 rfl ?_
  refine T_icmp_ge (tgt := 23) (pc := 13) d_Reader_takeWord_13 (by decide) (fun q13 => ?_) (fun q13 => ?_)
  · refine T_iconst (v := 0) (pc := 23) d_Reader_takeWord_23 rfl ?_
    refine T_istore_n (pc := 24) d_Reader_takeWord_24 rfl (Nat.le_of_ble_eq_true rfl) rfl ?_
    refine T_iconst (v := 0) (pc := 25) d_Reader_takeWord_25 rfl ?_
    refine T_istore_n (pc := 26) d_Reader_takeWord_26 rfl (Nat.le_of_ble_eq_true rfl) rfl ?_
    have hp4 : p + 4 ≤ l.length := (nle_sub (a := l.length) (b := p) (c := 4) (by omega) (by omega) (by decide)).mp q13
    exact c_Reader_takeWord_loop hc hp4 n1 n2 4 0 0 h rfl hR hb (fun _ _ => rfl) (fun h' g' o' => ⟨o', by rw [if_neg (by omega)]; exact ⟨rfl, g'⟩⟩)
  · refine T_aload_n (pc := 16) d_Reader_takeWord_16 rfl ?_
    refine T_iconst (v := 1) (pc := 17) d_Reader_takeWord_17 rfl ?_
    refine T_put (pc := 18) d_Reader_takeWord_18 sF_Reader_17_Reader hR (Nat.le_of_ble_eq_true rfl) (a_fit_z (by decide)) (T_up (fun h18x1 g18x1 o18x1 => ?_))
    have hB_18x1 := (o18x1 src n1).trans hB
    have hA_18x1 := (o18x1 (src + 1) n2).trans hA
    refine T_iconst (v := 0) (pc := 21) d_Reader_takeWord_21 rfl ?_
    refine T_iret (pc := 22) d_Reader_takeWord_22 rfl rfl (Nat.le_refl _) ?_
    have hp4 : ¬ p + 4 ≤ l.length := mt (nle_sub (a := l.length) (b := p) (c := 4) (by omega) (by omega) (by decide)).mpr q13
    exact ⟨o18x1, by rw [if_pos (by omega)]; exact ⟨rfl, g18x1⟩⟩
