/-! OnceWire$Value.clear, digest. -/
set_option maxRecDepth 100000 in
set_option maxHeartbeats 4000000 in
theorem c_Value_clear_1 {n v sa : Nat} {Z : aZ} : ∀ (k i : Nat) (h : aH) (g : Nat → Int32), i + k = 16 → h v = some (.inr (8, [.ref sa, .ref (v + 1), .ref (v + 2)])) → h (v + 1) = some (.inl (.int, 16, .inl g)) → (∀ j, j < i → g j = 0) → (∀ h' g', h' (v + 1) = some (.inl (.int, 16, .inl g')) → (∀ j, j < 16 → g' j = 0) → (∀ q, q ≠ (v + 1) → h' q = h q) → Tri M_Value_clear (a_rm 0 0 0) Z 24 [(1, .int 16), (0, .ref v)] [] n h' 0 0) → Tri M_Value_clear (a_rm 0 0 0) Z 2 [(1, .int (nI i)), (0, .ref v)] [] n h 0 0 := by
  intro k
  induction k with
  | zero =>
    intro i h g hik hV hX hz hK
    have hi : i = 16 := by omega
    subst hi
    refine T_iload_n (pc := 2) d_Value_clear_2 rfl ?_
    refine T_aload_n (pc := 3) d_Value_clear_3 rfl ?_
    refine T_get (pc := 4) d_Value_clear_4 sF_Value_11_Value hV rfl ?_
    refine T_alen (pc := 7) d_Value_clear_7 hX (Or.inl rfl) ?_
    refine T_icmp_ge (tgt := 24) (pc := 8) d_Value_clear_8 (by decide) (fun q8 => ?_) (fun q8 => ?_)
    · exact hK h g hX hz (fun _ _ => rfl)
    · exact absurd (by exact nI_le (a := 16) (b := 16) (Nat.le_refl _) (by decide)) q8
  | succ k ih =>
    intro i h g hik hV hX hz hK
    refine T_iload_n (pc := 2) d_Value_clear_2 rfl ?_
    refine T_aload_n (pc := 3) d_Value_clear_3 rfl ?_
    refine T_get (pc := 4) d_Value_clear_4 sF_Value_11_Value hV rfl ?_
    refine T_alen (pc := 7) d_Value_clear_7 hX (Or.inl rfl) ?_
    refine T_icmp_ge (tgt := 24) (pc := 8) d_Value_clear_8 (by decide) (fun q8 => ?_) (fun q8 => ?_)
    · exact absurd q8 (nI_ge (b := 16) (by omega) (by decide))
    · refine T_aload_n (pc := 11) d_Value_clear_11 rfl ?_
      refine T_get (pc := 12) d_Value_clear_12 sF_Value_11_Value hV rfl ?_
      refine T_iload_n (pc := 15) d_Value_clear_15 rfl ?_
      refine T_iconst (v := 0) (pc := 16) d_Value_clear_16 rfl ?_
      refine T_iast (pc := 17) d_Value_clear_17 (Nat.succ_ne_zero _) hX (vp_in_nI (by omega) (by decide)) (T_up (fun h17x1 g17x1 o17x1 => ?_))
      have hV_17x1 := (o17x1 v (by omega)).trans hV
      refine T_iinc (pc := 18) d_Value_clear_18 rfl (nI_1 i) (Nat.le_of_ble_eq_true rfl) rfl ?_
      refine T_goto (tgt := 2) (pc := 21) d_Value_clear_21 (by decide) ?_
      refine ih (i + 1) _ _ (by omega) hV_17x1 g17x1 (fun j hj => ?_) (fun h' g' k1 k2 k3 => hK h' g' k1 k2 (fun q hq => (k3 q hq).trans (o17x1 q hq)))
      rw [nI_clamp (by omega)]
      by_cases hji : j = i
      · subst hji
        rw [pk_us]
      · rw [pk_un hji]
        exact hz j (by omega)
set_option maxRecDepth 100000 in
set_option maxHeartbeats 4000000 in
theorem c_Value_clear_2 {n v sa : Nat} {Z : aZ} : ∀ (k i : Nat) (h : aH) (g : Nat → Int32), i + k = 4 → h v = some (.inr (8, [.ref sa, .ref (v + 1), .ref (v + 2)])) → h (v + 2) = some (.inl (.int, 4, .inl g)) → (∀ j, j < i → g j = 0) → (∀ h' g', h' (v + 2) = some (.inl (.int, 4, .inl g')) → (∀ j, j < 4 → g' j = 0) → (∀ q, q ≠ (v + 2) → h' q = h q) → Tri M_Value_clear (a_rm 0 0 0) Z 48 [(1, .int 4), (0, .ref v)] [] n h' 0 0) → Tri M_Value_clear (a_rm 0 0 0) Z 26 [(1, .int (nI i)), (0, .ref v)] [] n h 0 0 := by
  intro k
  induction k with
  | zero =>
    intro i h g hik hV hX hz hK
    have hi : i = 4 := by omega
    subst hi
    refine T_iload_n (pc := 26) d_Value_clear_26 rfl ?_
    refine T_aload_n (pc := 27) d_Value_clear_27 rfl ?_
    refine T_get (pc := 28) d_Value_clear_28 sF_Value_15_Value hV rfl ?_
    refine T_alen (pc := 31) d_Value_clear_31 hX (Or.inl rfl) ?_
    refine T_icmp_ge (tgt := 48) (pc := 32) d_Value_clear_32 (by decide) (fun q32 => ?_) (fun q32 => ?_)
    · exact hK h g hX hz (fun _ _ => rfl)
    · exact absurd (by exact nI_le (a := 4) (b := 4) (Nat.le_refl _) (by decide)) q32
  | succ k ih =>
    intro i h g hik hV hX hz hK
    refine T_iload_n (pc := 26) d_Value_clear_26 rfl ?_
    refine T_aload_n (pc := 27) d_Value_clear_27 rfl ?_
    refine T_get (pc := 28) d_Value_clear_28 sF_Value_15_Value hV rfl ?_
    refine T_alen (pc := 31) d_Value_clear_31 hX (Or.inl rfl) ?_
    refine T_icmp_ge (tgt := 48) (pc := 32) d_Value_clear_32 (by decide) (fun q32 => ?_) (fun q32 => ?_)
    · exact absurd q32 (nI_ge (b := 4) (by omega) (by decide))
    · refine T_aload_n (pc := 35) d_Value_clear_35 rfl ?_
      refine T_get (pc := 36) d_Value_clear_36 sF_Value_15_Value hV rfl ?_
      refine T_iload_n (pc := 39) d_Value_clear_39 rfl ?_
      refine T_iconst (v := 0) (pc := 40) d_Value_clear_40 rfl ?_
      refine T_iast (pc := 41) d_Value_clear_41 (Nat.succ_ne_zero _) hX (vp_in_nI (by omega) (by decide)) (T_up (fun h41x1 g41x1 o41x1 => ?_))
      have hV_41x1 := (o41x1 v (by omega)).trans hV
      refine T_iinc (pc := 42) d_Value_clear_42 rfl (nI_1 i) (Nat.le_of_ble_eq_true rfl) rfl ?_
      refine T_goto (tgt := 26) (pc := 45) d_Value_clear_45 (by decide) ?_
      refine ih (i + 1) _ _ (by omega) hV_41x1 g41x1 (fun j hj => ?_) (fun h' g' k1 k2 k3 => hK h' g' k1 k2 (fun q hq => (k3 q hq).trans (o41x1 q hq)))
      rw [nI_clamp (by omega)]
      by_cases hji : j = i
      · subst hji
        rw [pk_us]
      · rw [pk_un hji]
        exact hz j (by omega)
set_option maxRecDepth 100000 in
set_option maxHeartbeats 4000000 in
theorem c_Value_clear {n v sa : Nat} {h : aH} {ns : List Sf} {vs : List (List Int32)} (hv : Va h v sa ns vs) (hn : ns.length ≤ 4) : Con M_Value_clear 0 0 0 n [.ref v] h (fun r h' => r = none ∧ Va h' v sa ns (vnil ns) ∧ ∀ q, q ≠ v + 1 → q ≠ v + 2 → h' q = h q) := by
  obtain ⟨hvl, g, c, hV, hG, hC, hgc, hz⟩ := hv
  refine Con.of rfl (Nat.le_of_ble_eq_true rfl) ?_
  refine T_iconst (v := 0) (pc := 0) d_Value_clear_0 rfl ?_
  refine T_istore_n (pc := 1) d_Value_clear_1 rfl (Nat.le_of_ble_eq_true rfl) rfl ?_
  refine c_Value_clear_1 16 0 h g rfl hV hG (fun j hj => absurd hj (Nat.not_lt_zero j)) (fun h1 g1 k1 k2 k3 => ?_)
  refine T_iconst (v := 0) (pc := 24) d_Value_clear_24 rfl ?_
  refine T_istore_n (pc := 25) d_Value_clear_25 rfl (Nat.le_of_ble_eq_true rfl) rfl ?_
  refine c_Value_clear_2 4 0 h1 c rfl ((k3 v (by omega)).trans hV) ((k3 (v + 2) (by omega)).trans hC) (fun j hj => absurd hj (Nat.not_lt_zero j)) (fun h2 c2 m1 m2 m3 => ?_)
  refine T_vret (pc := 48) d_Value_clear_48 rfl rfl (Nat.le_refl _) ?_
  refine ⟨rfl, ⟨by simp [vnil], g1, c2, (m3 v (by omega)).trans ((k3 v (by omega)).trans hV), (m3 (v + 1) (by omega)).trans k1, m1, fun i t w ht hw => ?_, fun i h3 h4 => ⟨m2 i h4, k2 _ (by omega)⟩⟩, fun q h3 h4 => (m3 q h4).trans (k3 q h3)⟩
  have hi := ge_lt ht
  have hw' : w = if t.2.2 then [] else [0] := by
    simp only [vnil, List.getElem?_map, ht, Option.map_some, Option.some.injEq] at hw
    exact hw.symm
  subst hw'
  cases hb : t.2.2
  · refine ⟨fun j hj => ?_, by simp, fun e => absurd e (by decide), fun _ => by simp⟩
    have hj0 : j = 0 := by simp at hj; omega
    subst hj0
    rw [k2 _ (by omega)]
    rfl
  · exact ⟨fun j hj => by simp at hj, by simp, fun _ => m2 i (by omega), fun e => absurd e (by decide)⟩
def dgI (d : Int32) (w : List Int32) : Int32 := w.foldl (fun d x => 31 * d + x) d
def dgF : List Sf → List (List Int32) → Int32 → Int32
  | t :: ts, w :: us, d => dgF ts us (dgI (if t.2.2 then 31 * d + nI w.length else d) w)
  | _, _, d => d
set_option maxRecDepth 100000 in
set_option maxHeartbeats 4000000 in
theorem c_Value_digest_in {n v sa i : Nat} {h : aH} {ns : List Sf} {vs : List (List Int32)} {t : Sf} {w : List Int32} (hs : Sc h sa ns) (hv : Va h v sa ns vs) (ht : ns[i]? = some t) (hw : vs[i]? = some w) {Z : aZ} : ∀ (us : List Int32) (j : Nat) (d : Int32), w.drop j = us → j ≤ w.length → Tri M_Value_digest (a_rm 3 0 0) Z 67 [(4, .int (nI w.length)), (1, .int (dgI d us)), (3, .int (nI w.length)), (2, .int (nI i)), (0, .ref v)] [] n h 0 0 → Tri M_Value_digest (a_rm 3 0 0) Z 42 [(4, .int (nI j)), (1, .int d), (3, .int (nI w.length)), (2, .int (nI i)), (0, .ref v)] [] n h 0 0 := by
  have hw4 := hv.le4 ht hw
  intro us
  induction us with
  | nil =>
    intro j d hus hj hK
    have hj2 : j = w.length := by
      have := List.drop_eq_nil_iff.mp hus
      omega
    subst hj2
    refine T_iload (pc := 42) d_Value_digest_42 rfl ?_
    refine T_iload_n (pc := 44) d_Value_digest_44 rfl ?_
    refine T_icmp_ge (tgt := 67) (pc := 45) d_Value_digest_45 (by decide) (fun q45 => ?_) (fun q45 => ?_)
    · exact hK
    · exact absurd (nI_le (Nat.le_refl _) (by omega)) q45
  | cons x us ih =>
    intro j d hus hj hK
    have hj2 : j < w.length := by
      have := congrArg List.length hus
      simp at this
      omega
    have hx : w[j]? = some x := by
      have := congrArg (fun l => l[0]?) hus
      simpa using this
    have hus2 : w.drop (j + 1) = us := by
      rw [← List.drop_drop, hus]
      rfl
    refine T_iload (pc := 42) d_Value_digest_42 rfl ?_
    refine T_iload_n (pc := 44) d_Value_digest_44 rfl ?_
    refine T_icmp_ge (tgt := 67) (pc := 45) d_Value_digest_45 (by decide) (fun q45 => ?_) (fun q45 => ?_)
    · exact absurd q45 (nI_ge hj2 (by omega))
    · refine T_bipush (v := 31) (pc := 48) d_Value_digest_48 rfl ?_
      refine T_iload_n (pc := 50) d_Value_digest_50 rfl ?_
      refine T_imul (pc := 51) d_Value_digest_51 ?_
      refine T_aload_n (pc := 52) d_Value_digest_52 rfl ?_
      refine T_iload_n (pc := 53) d_Value_digest_53 rfl ?_
      refine T_iload (pc := 54) d_Value_digest_54 rfl ?_
      refine T_ivV (pc := 56) d_Value_digest_56 sI_Value_41 (c_Value_intOf hs hv ht hw hx) hv.obj rfl rfl ⟨(Nat.le_of_ble_eq_true rfl), (Nat.le_of_ble_eq_true rfl)⟩ ⟨(Nat.le_of_ble_eq_true rfl), (Nat.le_of_ble_eq_true rfl)⟩ (Nat.le_of_ble_eq_true rfl) (fun r1 h1 q1 => ?_)
      obtain ⟨rfl, e1⟩ := q1
      rw [e1]
      refine T_iadd (pc := 59) d_Value_digest_59 ?_
      refine T_istore_n (pc := 60) d_Value_digest_60 rfl (Nat.le_of_ble_eq_true rfl) rfl ?_
      refine T_iinc (pc := 61) d_Value_digest_61 rfl (nI_1 j) (Nat.le_of_ble_eq_true rfl) rfl ?_
      refine T_goto (tgt := 42) (pc := 64) d_Value_digest_64 (by decide) ?_
      exact ih (j + 1) _ hus2 (by omega) hK
set_option maxRecDepth 100000 in
set_option maxHeartbeats 4000000 in
theorem c_Value_digest_out {n v sa : Nat} {h : aH} {ns : List Sf} {vs : List (List Int32)} (hs : Sc h sa ns) (hv : Va h v sa ns vs) {Q : aQ} : ∀ (ts : List Sf) (us : List (List Int32)) (i : Nat) (d : Int32), ns.drop i = ts → vs.drop i = us → i ≤ ns.length → Q (some (.int (dgF ts us d))) h → Tri M_Value_digest (a_rm 3 0 0) (a_Z 0 0 Q) 4 [(2, .int (nI i)), (1, .int d), (0, .ref v)] [] n h 0 0 := by
  have hle := hs.le
  have hvl : vs.length = ns.length := hv.1
  intro ts
  induction ts with
  | nil =>
    intro us i d hts hus hi hQ
    have hi2 : ns.length ≤ i := List.drop_eq_nil_iff.mp hts
    refine T_iload_n (pc := 4) d_Value_digest_4 rfl ?_
    refine T_aload_n (pc := 5) d_Value_digest_5 rfl ?_
    refine T_get (pc := 6) d_Value_digest_6 sF_Value_18_Value hv.obj rfl ?_
    refine T_get (pc := 9) d_Value_digest_9 sF_Value_34_Schema hs.obj rfl ?_
    refine T_icmp_ge (tgt := 73) (pc := 12) d_Value_digest_12 (by decide) (fun q12 => ?_) (fun q12 => ?_)
    · refine T_iload_n (pc := 73) d_Value_digest_73 rfl ?_
      refine T_iret (pc := 74) d_Value_digest_74 rfl rfl (Nat.le_refl _) ?_
      exact hQ
    · exact absurd (nI_le hi2 (by omega)) q12
  | cons t ts ih =>
    intro us i d hts hus hi hQ
    have hi2 : i < ns.length := by
      have := congrArg List.length hts
      simp at this
      omega
    have ht : ns[i]? = some t := by
      have := congrArg (fun l => l[0]?) hts
      simpa using this
    obtain ⟨w, hw⟩ : ∃ w, vs[i]? = some w := ⟨vs[i], List.getElem?_eq_getElem (by omega)⟩
    have hts2 : ns.drop (i + 1) = ts := by
      rw [← List.drop_drop, hts]
      rfl
    have hus2 : us = w :: vs.drop (i + 1) := by
      rw [← hus, List.drop_eq_getElem_cons (by omega)]
      rw [List.getElem?_eq_getElem (by omega)] at hw
      rw [Option.some.inj hw]
    rw [hus2] at hQ
    refine T_iload_n (pc := 4) d_Value_digest_4 rfl ?_
    refine T_aload_n (pc := 5) d_Value_digest_5 rfl ?_
    refine T_get (pc := 6) d_Value_digest_6 sF_Value_18_Value hv.obj rfl ?_
    refine T_get (pc := 9) d_Value_digest_9 sF_Value_34_Schema hs.obj rfl ?_
    refine T_icmp_ge (tgt := 73) (pc := 12) d_Value_digest_12 (by decide) (fun q12 => ?_) (fun q12 => ?_)
    · exact absurd q12 (nI_ge hi2 (by omega))
    · refine T_aload_n (pc := 15) d_Value_digest_15 rfl ?_
      refine T_iload_n (pc := 16) d_Value_digest_16 rfl ?_
      refine T_ivV (pc := 17) d_Value_digest_17 sI_Value_30 (c_Value_countOf hs hv ht hw) hv.obj rfl rfl ⟨(Nat.le_of_ble_eq_true rfl), (Nat.le_of_ble_eq_true rfl)⟩ ⟨(Nat.le_of_ble_eq_true rfl), (Nat.le_of_ble_eq_true rfl)⟩ (Nat.le_of_ble_eq_true rfl) (fun r1 h1 q1 => ?_)
      obtain ⟨rfl, e1⟩ := q1
      rw [e1]
      refine T_istore_n (pc := 20) d_Value_digest_20 rfl (Nat.le_of_ble_eq_true rfl) rfl ?_
      refine T_aload_n (pc := 21) d_Value_digest_21 rfl ?_
      refine T_get (pc := 22) d_Value_digest_22 sF_Value_18_Value hv.obj rfl ?_
      refine T_iload_n (pc := 25) d_Value_digest_25 rfl ?_
      refine T_ivV (pc := 26) d_Value_digest_26 sI_Value_38 (c_Schema_isRepeated hs ht) hs.obj rfl rfl ⟨(Nat.le_of_ble_eq_true rfl), (Nat.le_of_ble_eq_true rfl)⟩ ⟨(Nat.le_of_ble_eq_true rfl), (Nat.le_of_ble_eq_true rfl)⟩ (Nat.le_of_ble_eq_true rfl) (fun r2 h2 q2 => ?_)
      obtain ⟨rfl, e2⟩ := q2
      rw [e2]
      refine T_if_eq (tgt := 39) (pc := 29) d_Value_digest_29 (by decide) (fun q29 => ?_) (fun q29 => ?_)
      · refine T_iconst (v := 0) (pc := 39) d_Value_digest_39 rfl ?_
        refine T_istore (pc := 40) d_Value_digest_40 (Nat.le_of_ble_eq_true rfl) rfl ?_
        have hb : t.2.2 = false := by cases hb : t.2.2 <;> simp_all [bI]
        refine T_loc (L' := [(4, .int (nI 0)), (1, .int (if t.2.2 then 31 * d + nI w.length else d)), (3, .int (nI w.length)), (2, .int (nI i)), (0, .ref v)]) [0, 3, 1, 2, 4] (by rw [hb]; rfl) ?_
        refine c_Value_digest_in hs hv ht hw w 0 _ (List.drop_zero) (Nat.zero_le _) ?_
        refine T_iinc (pc := 67) d_Value_digest_67 rfl (nI_1 i) (Nat.le_of_ble_eq_true rfl) rfl ?_
        refine T_goto (tgt := 4) (pc := 70) d_Value_digest_70 (by decide) (T_loc [0, 2, 4] rfl ?_)
        exact ih _ (i + 1) _ hts2 rfl (by omega) hQ
      · refine T_bipush (v := 31) (pc := 32) d_Value_digest_32 rfl ?_
        refine T_iload_n (pc := 34) d_Value_digest_34 rfl ?_
        refine T_imul (pc := 35) d_Value_digest_35 ?_
        refine T_iload_n (pc := 36) d_Value_digest_36 rfl ?_
        refine T_iadd (pc := 37) d_Value_digest_37 ?_
        refine T_istore_n (pc := 38) d_Value_digest_38 rfl (Nat.le_of_ble_eq_true rfl) rfl ?_
        refine T_iconst (v := 0) (pc := 39) d_Value_digest_39 rfl ?_
        refine T_istore (pc := 40) d_Value_digest_40 (Nat.le_of_ble_eq_true rfl) rfl ?_
        have hb : t.2.2 = true := by cases hb : t.2.2 <;> simp_all [bI]
        refine T_loc (L' := [(4, .int (nI 0)), (1, .int (if t.2.2 then 31 * d + nI w.length else d)), (3, .int (nI w.length)), (2, .int (nI i)), (0, .ref v)]) [0, 1, 2, 3, 4] (by rw [hb]; rfl) ?_
        refine c_Value_digest_in hs hv ht hw w 0 _ (List.drop_zero) (Nat.zero_le _) ?_
        refine T_iinc (pc := 67) d_Value_digest_67 rfl (nI_1 i) (Nat.le_of_ble_eq_true rfl) rfl ?_
        refine T_goto (tgt := 4) (pc := 70) d_Value_digest_70 (by decide) (T_loc [0, 2, 4] rfl ?_)
        exact ih _ (i + 1) _ hts2 rfl (by omega) hQ
set_option maxRecDepth 100000 in
set_option maxHeartbeats 4000000 in
theorem c_Value_digest {n v sa : Nat} {h : aH} {ns : List Sf} {vs : List (List Int32)} (hs : Sc h sa ns) (hv : Va h v sa ns vs) : Con M_Value_digest 3 0 0 n [.ref v] h (fun r h' => r = some (.int (dgF ns vs 0)) ∧ h' = h) := by
  refine Con.of rfl (Nat.le_of_ble_eq_true rfl) ?_
  refine T_iconst (v := 0) (pc := 0) d_Value_digest_0 rfl ?_
  refine T_istore_n (pc := 1) d_Value_digest_1 rfl (Nat.le_of_ble_eq_true rfl) rfl ?_
  refine T_iconst (v := 0) (pc := 2) d_Value_digest_2 rfl ?_
  refine T_istore_n (pc := 3) d_Value_digest_3 rfl (Nat.le_of_ble_eq_true rfl) rfl ?_
  exact c_Value_digest_out hs hv ns vs 0 0 (List.drop_zero) (List.drop_zero) (Nat.zero_le _) ⟨rfl, rfl⟩
