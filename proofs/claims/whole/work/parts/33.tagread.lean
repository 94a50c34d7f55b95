/-! OnceWire$TaggedFormat.read. -/
def dtF : Nat → List Sf → List (List Int32) → List Int32 → Option (List (List Int32))
  | 0, _, vs, r => if r.length = 0 then some vs else none
  | k + 1, ns, vs, r => if r.length = 0 then some vs else match ent ns vs r with
    | none => none
    | some (vs', m) => dtF k ns vs' (r.drop m)
def decT (ns : List Sf) (r : List Int32) : Option (List (List Int32)) := dtF r.length ns (vnil ns) r
set_option maxRecDepth 100000 in
set_option maxHeartbeats 4000000 in
theorem c_TaggedFormat_read_loop {n fm v sa rd src cap : Nat} {ns : List Sf} {l : List Int32} (hc : cap < 2 ^ 30) (d1 : sa + 4 < v) (d2 : v + 2 < src) (d3 : src + 1 < rd) (d4 : fm < v ∨ rd < fm) {N : Nat} {Q : aQ} (hN : N < 2 ^ 30) : ∀ (k j p : Nat) (vs : List (List Int32)) (h : aH), j + k = N → p ≤ l.length → h fm = some (.inr (7, [.ref sa])) → Sc h sa ns → Va h v sa ns vs → Rd h rd src p false → By h src cap l → (∀ h' vs' p' f', dtF k ns vs (l.drop p) = some vs' → Va h' v sa ns vs' → Rd h' rd src p' f' → (∀ q, q ≠ v + 1 → q ≠ v + 2 → q ≠ rd → h' q = h q) → Q (some (.int 1)) h') → (∀ h' vs' p' f', dtF k ns vs (l.drop p) = none → Va h' v sa ns vs' → Rd h' rd src p' f' → (∀ q, q ≠ v + 1 → q ≠ v + 2 → q ≠ rd → h' q = h q) → Q (some (.int 0)) h') → Tri M_TaggedFormat_read (a_rm 3 0 0) (a_Z 0 0 Q) 12 [(4, .int (nI j)), (3, .int (nI N)), (0, .ref fm), (1, .ref rd), (2, .ref v)] [] n h 0 0 := by
  intro k
  induction k with
  | zero =>
    intro j p vs h hjk hp hF hs hv hR hb hQ1 hQ0
    have hbl := hb.le
    have e3 : (l.drop p).length = l.length - p := List.length_drop
    refine T_iload (pc := 12) d_TaggedFormat_read_12 rfl ?_
    refine T_iload_n (pc := 14) d_TaggedFormat_read_14 rfl ?_
    refine T_icmp_ge (tgt := 42) (pc := 15) d_TaggedFormat_read_15 (by decide) (fun q15 => ?_) (fun q15 => ?_)
    · refine T_aload_n (pc := 42) d_TaggedFormat_read_42 rfl ?_
      refine T_ivV (pc := 43) d_TaggedFormat_read_43 sI_TaggedFormat_75 (c_Reader_left hR hb hc hp) hR rfl rfl ⟨(Nat.le_of_ble_eq_true rfl), (Nat.le_of_ble_eq_true rfl)⟩ ⟨(Nat.le_of_ble_eq_true rfl), (Nat.le_of_ble_eq_true rfl)⟩ (Nat.le_of_ble_eq_true rfl) (fun r1 h1 q1 => ?_)
      obtain ⟨rfl, e1⟩ := q1
      rw [e1]
      refine T_if_ne (tgt := 53) (pc := 46) d_TaggedFormat_read_46 (by decide) (fun q46 => ?_) (fun q46 => ?_)
      · refine T_iconst (v := 0) (pc := 53) d_TaggedFormat_read_53 rfl ?_
        refine T_zret (pc := 54) d_TaggedFormat_read_54 rfl (by decide) rfl (Nat.le_refl _) ?_
        first
          | (have h0 : l.length - p = 0 := (nI_eq (a := l.length - p) (b := 0) (by omega) (by decide)).mp q46
             exact hQ1 h vs p false (by rw [dtF, if_pos (by omega)]) hv hR (fun _ _ _ _ => rfl))
          | (have h0 : ¬ l.length - p = 0 := fun e => q46 (by rw [e]; rfl)
             exact hQ0 h vs p false (by rw [dtF, if_neg (by omega)]) hv hR (fun _ _ _ _ => rfl))
      · refine T_iconst (v := 1) (pc := 49) d_TaggedFormat_read_49 rfl ?_
        refine T_goto (tgt := 54) (pc := 50) d_TaggedFormat_read_50 (by decide) ?_
        refine T_zret (pc := 54) d_TaggedFormat_read_54 rfl (by decide) rfl (Nat.le_refl _) ?_
        first
          | (have h0 : l.length - p = 0 := (nI_eq (a := l.length - p) (b := 0) (by omega) (by decide)).mp q46
             exact hQ1 h vs p false (by rw [dtF, if_pos (by omega)]) hv hR (fun _ _ _ _ => rfl))
          | (have h0 : ¬ l.length - p = 0 := fun e => q46 (by rw [e]; rfl)
             exact hQ0 h vs p false (by rw [dtF, if_neg (by omega)]) hv hR (fun _ _ _ _ => rfl))
    · exact absurd (nI_le (by omega) (by omega)) q15
  | succ k ih =>
    intro j p vs h hjk hp hF hs hv hR hb hQ1 hQ0
    have hbl := hb.le
    have e3 : (l.drop p).length = l.length - p := List.length_drop
    refine T_iload (pc := 12) d_TaggedFormat_read_12 rfl ?_
    refine T_iload_n (pc := 14) d_TaggedFormat_read_14 rfl ?_
    refine T_icmp_ge (tgt := 42) (pc := 15) d_TaggedFormat_read_15 (by decide) (fun q15 => ?_) (fun q15 => ?_)
    · exact absurd q15 (nI_ge (by omega) (by omega))
    · refine T_aload_n (pc := 18) d_TaggedFormat_read_18 rfl ?_
      refine T_ivV (pc := 19) d_TaggedFormat_read_19 sI_TaggedFormat_75 (c_Reader_left hR hb hc hp) hR rfl rfl ⟨(Nat.le_of_ble_eq_true rfl), (Nat.le_of_ble_eq_true rfl)⟩ ⟨(Nat.le_of_ble_eq_true rfl), (Nat.le_of_ble_eq_true rfl)⟩ (Nat.le_of_ble_eq_true rfl) (fun r1 h1 q1 => ?_)
      obtain ⟨rfl, e1⟩ := q1
      rw [e1]
      refine T_if_le (tgt := 42) (pc := 22) d_TaggedFormat_read_22 (by decide) (fun q22 => ?_) (fun q22 => ?_)
      · have h0 : l.length - p = 0 := by have := (nI_leI (a := l.length - p) (b := 0) (by omega) (by decide)).mp q22; omega
        refine T_aload_n (pc := 42) d_TaggedFormat_read_42 rfl ?_
        refine T_ivV (pc := 43) d_TaggedFormat_read_43 sI_TaggedFormat_75 (c_Reader_left hR hb hc hp) hR rfl rfl ⟨(Nat.le_of_ble_eq_true rfl), (Nat.le_of_ble_eq_true rfl)⟩ ⟨(Nat.le_of_ble_eq_true rfl), (Nat.le_of_ble_eq_true rfl)⟩ (Nat.le_of_ble_eq_true rfl) (fun r2 h2 q2 => ?_)
        obtain ⟨rfl, e2⟩ := q2
        rw [e2]
        refine T_if_ne (tgt := 53) (pc := 46) d_TaggedFormat_read_46 (by decide) (fun q46 => ?_) (fun q46 => ?_)
        · exact absurd (by rw [h0]; rfl) q46
        · refine T_iconst (v := 1) (pc := 49) d_TaggedFormat_read_49 rfl ?_
          refine T_goto (tgt := 54) (pc := 50) d_TaggedFormat_read_50 (by decide) ?_
          refine T_zret (pc := 54) d_TaggedFormat_read_54 rfl (by decide) rfl (Nat.le_refl _) ?_
          exact hQ1 h vs p false (by rw [dtF, if_pos (by omega)]) hv hR (fun _ _ _ _ => rfl)
      · refine T_aload_n (pc := 25) d_TaggedFormat_read_25 rfl ?_
        refine T_aload_n (pc := 26) d_TaggedFormat_read_26 rfl ?_
        refine T_aload_n (pc := 27) d_TaggedFormat_read_27 rfl ?_
        have h0 : ¬ l.length - p = 0 := fun e => q22 (by rw [e]; decide)
        refine T_ivV (pc := 28) d_TaggedFormat_read_28 sI_TaggedFormat_79 (c_TaggedFormat_readEntry hc d1 d2 d3 d4 hF hs hv hR hb hp) hF rfl rfl ⟨(Nat.le_of_ble_eq_true rfl), (Nat.le_of_ble_eq_true rfl)⟩ ⟨(Nat.le_of_ble_eq_true rfl), (Nat.le_of_ble_eq_true rfl)⟩ (Nat.le_of_ble_eq_true rfl) (fun r3 h3 q3 => ?_)
        obtain ⟨o3, q3⟩ := q3
        cases hz : ent ns vs (l.drop p) with
        | none =>
          rw [hz] at q3
          obtain ⟨rfl, vs3, p3, f3, hv3, hR3⟩ := q3
          refine T_if_ne (tgt := 36) (pc := 31) d_TaggedFormat_read_31 (by decide) (fun q31 => ?_) (fun q31 => ?_)
          · exact absurd q31 (by decide)
          · refine T_iconst (v := 0) (pc := 34) d_TaggedFormat_read_34 rfl ?_
            refine T_zret (pc := 35) d_TaggedFormat_read_35 rfl (by decide) rfl (Nat.le_refl _) ?_
            refine hQ0 _ vs3 p3 f3 ?_ hv3 hR3 o3
            rw [dtF, if_neg (by omega), hz]
        | some z =>
          obtain ⟨vs3, m⟩ := z
          rw [hz] at q3
          obtain ⟨rfl, hm, hR3, hv3⟩ := q3
          have hd : dtF (k + 1) ns vs (l.drop p) = dtF k ns vs3 (l.drop (p + m)) := by
            rw [dtF, if_neg (by omega), hz, show l.drop (p + m) = (l.drop p).drop m by rw [List.drop_drop]]
          refine T_if_ne (tgt := 36) (pc := 31) d_TaggedFormat_read_31 (by decide) (fun q31 => ?_) (fun q31 => ?_)
          · refine T_iinc (pc := 36) d_TaggedFormat_read_36 rfl (nI_1 j) (Nat.le_of_ble_eq_true rfl) rfl ?_
            refine T_goto (tgt := 12) (pc := 39) d_TaggedFormat_read_39 (by decide) ?_
            exact ih (j + 1) (p + m) vs3 h3 (by omega) hm ((o3 fm (by omega) (by omega) (by omega)).trans hF) (hs.same (fun q z1 z2 => o3 q (by omega) (by omega) (by omega))) hv3 hR3 (hb.same (o3 src (by omega) (by omega) (by omega)) (o3 (src + 1) (by omega) (by omega) (by omega))) (fun h' vs' p' f' x' g' r' o' => hQ1 h' vs' p' f' (hd.trans x') g' r' (fun q z1 z2 z3 => (o' q z1 z2 z3).trans (o3 q z1 z2 z3))) (fun h' vs' p' f' x' g' r' o' => hQ0 h' vs' p' f' (hd.trans x') g' r' (fun q z1 z2 z3 => (o' q z1 z2 z3).trans (o3 q z1 z2 z3)))
          · exact absurd q31 (by decide)
set_option maxRecDepth 100000 in
set_option maxHeartbeats 4000000 in
theorem c_TaggedFormat_read {n fm v sa rd src cap : Nat} {ns : List Sf} {l : List Int32} (hc : cap < 2 ^ 30) (d1 : sa + 4 < v) (d2 : v + 2 < src) (d3 : src + 1 < rd) (d4 : fm < v ∨ rd < fm) {p : Nat} {h : aH} {vs : List (List Int32)} (hF : h fm = some (.inr (7, [.ref sa]))) (hs : Sc h sa ns) (hv : Va h v sa ns vs) (hR : Rd h rd src p false) (hb : By h src cap l) (hp : p ≤ l.length) : Con M_TaggedFormat_read 3 0 0 n [.ref fm, .ref rd, .ref v] h (fun r h' => (∀ q, q ≠ v + 1 → q ≠ v + 2 → q ≠ rd → h' q = h q) ∧ (∃ p' f', Rd h' rd src p' f') ∧ match decT ns (l.drop p) with | some vs' => r = some (.int 1) ∧ Va h' v sa ns vs' | none => r = some (.int 0) ∧ ∃ vs', Va h' v sa ns vs') := by
  have hbl := hb.le
  refine Con.of rfl (Nat.le_of_ble_eq_true rfl) ?_
  refine T_aload_n (pc := 0) d_TaggedFormat_read_0 rfl ?_
  refine T_ivV (pc := 1) d_TaggedFormat_read_1 sI_TaggedFormat_71 (c_Value_clear hv hs.le) hv.obj rfl rfl ⟨(Nat.le_of_ble_eq_true rfl), (Nat.le_of_ble_eq_true rfl)⟩ ⟨(Nat.le_of_ble_eq_true rfl), (Nat.le_of_ble_eq_true rfl)⟩ (Nat.le_of_ble_eq_true rfl) (fun r0 h0 q0 => ?_)
  obtain ⟨rfl, hv0, o0⟩ := q0
  have hs0 := hs.same (h' := h0) (fun q z1 z2 => o0 q (by omega) (by omega))
  have hb0 := hb.same (o0 src (by omega) (by omega)) (o0 (src + 1) (by omega) (by omega))
  have hR0 := (o0 rd (by omega) (by omega)).trans hR
  refine T_aload_n (pc := 4) d_TaggedFormat_read_4 rfl ?_
  refine T_ivV (pc := 5) d_TaggedFormat_read_5 sI_TaggedFormat_75 (c_Reader_left hR0 hb0 hc hp) hR0 rfl rfl ⟨(Nat.le_of_ble_eq_true rfl), (Nat.le_of_ble_eq_true rfl)⟩ ⟨(Nat.le_of_ble_eq_true rfl), (Nat.le_of_ble_eq_true rfl)⟩ (Nat.le_of_ble_eq_true rfl) (fun r1 h1 q1 => ?_)
  obtain ⟨rfl, e1⟩ := q1
  rw [e1]
  refine T_istore_n (pc := 8) d_TaggedFormat_read_8 rfl (Nat.le_of_ble_eq_true rfl) rfl ?_
  refine T_iconst (v := 0) (pc := 9) d_TaggedFormat_read_9 rfl ?_
  refine T_istore (pc := 10) d_TaggedFormat_read_10 (Nat.le_of_ble_eq_true rfl) rfl ?_
  have e3 : (l.drop p).length = l.length - p := List.length_drop
  refine c_TaggedFormat_read_loop hc d1 d2 d3 d4 (N := l.length - p) (by omega) (l.length - p) 0 p (vnil ns) h0 (by omega) hp ((o0 fm (by omega) (by omega)).trans hF) hs0 hv0 hR0 hb0 (fun h' vs' p' f' x' g' r' o' => ?_) (fun h' vs' p' f' x' g' r' o' => ?_)
  · refine ⟨fun q z1 z2 z3 => (o' q z1 z2 z3).trans (o0 q z1 z2), ⟨p', f', r'⟩, ?_⟩
    rw [decT, e3, x']
    exact ⟨rfl, g'⟩
  · refine ⟨fun q z1 z2 z3 => (o' q z1 z2 z3).trans (o0 q z1 z2), ⟨p', f', r'⟩, ?_⟩
    rw [decT, e3, x']
    exact ⟨rfl, vs', g'⟩
