/-! OnceWire: the facade. -/
theorem ite_n {P : Prop} [Decidable P] (q : ¬ (if P then (1 : Int32) else 0) = 0) : P := by
  by_cases z : P
  · exact z
  · exact absurd (if_neg z) q
theorem ite_z {P : Prop} [Decidable P] (q : (if P then (1 : Int32) else 0) = 0) : ¬ P := fun z => by
  rw [if_pos z] at q
  exact absurd q (by decide)
theorem ite_n' {P : Prop} [Decidable P] (q : ¬ (if P then (0 : Int32) else 1) = 0) : ¬ P := fun z => q (if_pos z)
theorem ite_z' {P : Prop} [Decidable P] (q : (if P then (0 : Int32) else 1) = 0) : P := by
  by_cases z : P
  · exact z
  · rw [if_neg z] at q
    exact absurd q (by decide)
abbrev okP (cs : List (Int32 × Int32)) (ps : List Pd) : Prop := ∀ m, m ∈ ps → ∃ j, j < cs.length ∧ m.1 = nI j
def Ow (h : aH) (x : Nat) (wf : Bool) (ns : List Sf) (vs : List (List Int32)) (db : List Int32) (ms : List Mg) (sl : List Kn) (old : Nat) (tot run : Int32) (cs : List (Int32 × Int32)) (ps : List Pd) : Prop := h x = some (.inr (0, [.ref (x + 1), .ref (x + 6), .ref (x + 9), .ref (x + 11), .ref (x + 49), .ref (x + 66)])) ∧ Sc h (x + 1) ns ∧ Va h (x + 6) (x + 1) ns vs ∧ By h (x + 9) 200 db ∧ (∃ wads, Nw h (x + 11) wads ms) ∧ Fo h (x + 48) (x + 1) wf ∧ Sv h (x + 49) (x + 11) (x + 48) sl old tot run ∧ (∃ svs, Va h (x + 49 + 1) (x + 1) ns svs) ∧ (∃ cads, Cl h (x + 66) (x + 11) (x + 48) cs ps cads) ∧ okP cs ps
theorem Ow.same {h' : aH} {x : Nat} {h : aH} {wf : Bool} {ns : List Sf} {vs : List (List Int32)} {db : List Int32} {ms : List Mg} {sl : List Kn} {old : Nat} {tot run : Int32} {cs : List (Int32 × Int32)} {ps : List Pd} (hO : Ow h x wf ns vs db ms sl old tot run cs ps) (o : ∀ q, x ≤ q → q ≤ x + 89 → h' q = h q) : Ow h' x wf ns vs db ms sl old tot run cs ps := by
  obtain ⟨hX, hs, hva, hb, ⟨wads, hn⟩, hF, hsv, ⟨svs, hsva⟩, ⟨cads, hc⟩, hok⟩ := id hO
  exact ⟨(o _ (by omega) (by omega)).trans hX, hs.same (fun q z1 z2 => o q (by omega) (by omega)), hva.same (fun q z1 z2 => o q (by omega) (by omega)), hb.same (o _ (by omega) (by omega)) (o _ (by omega) (by omega)), ⟨wads, hn.same (fun q z1 z2 => o q (by omega) (by omega))⟩, (o _ (by omega) (by omega)).trans hF, hsv.out (fun q z1 z2 => o q (by omega) (by omega)), ⟨svs, hsva.same (fun q z1 z2 => o q (by omega) (by omega))⟩, ⟨cads, hc.same (fun q z1 z2 => o q (by omega) (by omega))⟩, hok⟩
def fldV (ns : List Sf) (vs : List (List Int32)) (x k : Int32) (r : Bool) : List (List Int32) := if (dcl ns x k r).2.length = ns.length then vs else vs ++ [if r then [] else [0]]
theorem dcl_or (ns : List Sf) (x k : Int32) (r : Bool) : (dcl ns x k r).2 = ns ∨ ((dcl ns x k r).2 = ns ++ [(x.toNatClampNeg, k.toNatClampNeg, r)] ∧ ns.length < 4) := by
  unfold dcl
  split
  · exact Or.inl rfl
  · split
    · exact Or.inl rfl
    · split
      · exact Or.inl rfl
      · exact Or.inr ⟨rfl, by omega⟩
theorem Va.fld {h : aH} {v sa : Nat} {ns : List Sf} {vs : List (List Int32)} (hv : Va h v sa ns vs) (x k : Int32) (r : Bool) : Va h v sa (dcl ns x k r).2 (fldV ns vs x k r) := by
  unfold fldV
  rcases dcl_or ns x k r with e | ⟨e, hl⟩
  · rw [e, if_pos rfl]
    exact hv
  · rw [e, if_neg (by simp)]
    exact hv.add _ hl
set_option maxRecDepth 100000 in
set_option maxHeartbeats 4000000 in
theorem c_OW_field {n : Nat} {x : Nat} {h : aH} {wf : Bool} {ns : List Sf} {vs : List (List Int32)} {db : List Int32} {ms : List Mg} {sl : List Kn} {old : Nat} {tot run : Int32} {cs : List (Int32 × Int32)} {ps : List Pd} (hO : Ow h x wf ns vs db ms sl old tot run cs ps) {y k : Int32} {rp : Bool} : Con M_OW_field 2 0 0 n [.ref x, .int y, .int k, .int (bI rp)] h (fun r h' => r = some (.int (dcl ns y k rp).1) ∧ Ow h' x wf (dcl ns y k rp).2 (fldV ns vs y k rp) db ms sl old tot run cs ps ∧ ∀ q, q < x ∨ x + 89 < q → h' q = h q) := by
  obtain ⟨hX, hs, hva, hb, ⟨wads, hn⟩, hF, hsv, ⟨svs, hsva⟩, ⟨cads, hc⟩, hok⟩ := id hO
  refine Con.of rfl (Nat.le_of_ble_eq_true rfl) ?_
  refine T_aload_n (pc := 0) d_OW_field_0 rfl ?_
  refine T_get (pc := 1) d_OW_field_1 sF_OW_10_OW hX rfl ?_
  refine T_iload_n (pc := 4) d_OW_field_4 rfl ?_
  refine T_iload_n (pc := 5) d_OW_field_5 rfl ?_
  refine T_iload_n (pc := 6) d_OW_field_6 rfl ?_
  refine T_ivV (pc := 7) d_OW_field_7 sI_OW_65 (c_Schema_declare (r := rp) hs) hs.obj rfl rfl ⟨(Nat.le_of_ble_eq_true rfl), (Nat.le_of_ble_eq_true rfl)⟩ ⟨(Nat.le_of_ble_eq_true rfl), (Nat.le_of_ble_eq_true rfl)⟩ (Nat.le_of_ble_eq_true rfl) (fun r1 h1 q1 => ?_)
  obtain ⟨rfl, hs1, o1⟩ := q1
  refine T_iret (pc := 10) d_OW_field_10 rfl rfl (Nat.le_refl _) ?_
  exact ⟨rfl, ⟨(o1 _ (by omega)).trans hX, hs1, (hva.fld y k rp).same (fun q z1 z2 => o1 q (by omega)), hb.same (o1 _ (by omega)) (o1 _ (by omega)), ⟨wads, hn.same (fun q z1 z2 => o1 q (by omega))⟩, (o1 _ (by omega)).trans hF, hsv.out (fun q z1 z2 => o1 q (by omega)), ⟨_, (hsva.fld y k rp).same (fun q z1 z2 => o1 q (by omega))⟩, ⟨cads, hc.same (fun q z1 z2 => o1 q (by omega))⟩, hok⟩, fun q z => o1 q (by omega)⟩
def putF (ns : List Sf) (vs : List (List Int32)) (f v : Int32) : Option (List (List Int32)) := if 0 ≤ f ∧ f < nI ns.length then (match ns[f.toNatClampNeg]? with
  | some t => if t.2.1 = 3 ∧ v ≠ 0 ∧ v ≠ 1 then none else stv ns vs f.toNatClampNeg v
  | none => none) else none
def zO {α : Type} (o : Option α) : Int32 := match o with
  | some _ => 1
  | none => 0
set_option maxRecDepth 100000 in
set_option maxHeartbeats 4000000 in
theorem c_OW_put {n : Nat} {x : Nat} {h : aH} {wf : Bool} {ns : List Sf} {vs : List (List Int32)} {db : List Int32} {ms : List Mg} {sl : List Kn} {old : Nat} {tot run : Int32} {cs : List (Int32 × Int32)} {ps : List Pd} (hO : Ow h x wf ns vs db ms sl old tot run cs ps) {f v : Int32} : Con M_OW_put 3 0 0 n [.ref x, .int f, .int v] h (fun r h' => r = some (.int (zO (putF ns vs f v))) ∧ Ow h' x wf ns ((putF ns vs f v).getD vs) db ms sl old tot run cs ps ∧ ∀ q, q < x ∨ x + 89 < q → h' q = h q) := by
  obtain ⟨hX, hs, hva, hb, ⟨wads, hn⟩, hF, hsv, ⟨svs, hsva⟩, ⟨cads, hc⟩, hok⟩ := id hO
  refine Con.of rfl (Nat.le_of_ble_eq_true rfl) ?_
  refine T_aload_n (pc := 0) d_OW_put_0 rfl ?_
  refine T_get (pc := 1) d_OW_put_1 sF_OW_10_OW hX rfl ?_
  refine T_iload_n (pc := 4) d_OW_put_4 rfl ?_
  refine T_ivV (pc := 5) d_OW_put_5 sI_OW_69 (c_Schema_has (f := f) hs) hs.obj rfl rfl ⟨(Nat.le_of_ble_eq_true rfl), (Nat.le_of_ble_eq_true rfl)⟩ ⟨(Nat.le_of_ble_eq_true rfl), (Nat.le_of_ble_eq_true rfl)⟩ (Nat.le_of_ble_eq_true rfl) (fun r1 h1 q1 => ?_)
  obtain ⟨rfl, e1⟩ := q1
  rw [e1]
  refine T_if_eq (tgt := 39) (pc := 8) d_OW_put_8 (by decide) (fun q8 => ?_) (fun q8 => ?_)
  · refine T_iconst (v := 0) (pc := 39) d_OW_put_39 rfl ?_
    refine T_zret (pc := 40) d_OW_put_40 rfl (by decide) rfl (Nat.le_refl _) ?_
    rw [putF, if_neg (ite_z q8)]
    exact ⟨rfl, hO, fun _ _ => rfl⟩
  · have hf := ite_n q8
    have hs4 := hs.le
    obtain ⟨i, hi, rfl⟩ : ∃ i : Nat, i < ns.length ∧ f = nI i := by
      rcases pk_ix f (n := ns.length) (by omega) with q | q | q
      · exact absurd hf.1 (Int32.not_le.mpr q)
      · exact absurd hf.2 (Int32.not_lt.mpr q)
      · exact q
    have hcl : (nI i).toNatClampNeg = i := nI_clamp (by omega)
    obtain ⟨t, ht⟩ : ∃ t, ns[i]? = some t := ⟨_, List.getElem?_eq_getElem hi⟩
    obtain ⟨w, hw⟩ : ∃ w, vs[i]? = some w := ⟨_, List.getElem?_eq_getElem (by rw [hva.1]; exact hi)⟩
    have hP : putF ns vs (nI i) v = if t.2.1 = 3 ∧ v ≠ 0 ∧ v ≠ 1 then none else stv ns vs i v := by rw [putF, if_pos hf, hcl, ht]
    refine T_aload_n (pc := 11) d_OW_put_11 rfl ?_
    refine T_get (pc := 12) d_OW_put_12 sF_OW_10_OW hX rfl ?_
    refine T_iload_n (pc := 15) d_OW_put_15 rfl ?_
    refine T_iload_n (pc := 16) d_OW_put_16 rfl ?_
    refine T_ivV (pc := 17) d_OW_put_17 sI_OW_73 (c_Schema_allows (v := v) hs ht) hs.obj rfl rfl ⟨(Nat.le_of_ble_eq_true rfl), (Nat.le_of_ble_eq_true rfl)⟩ ⟨(Nat.le_of_ble_eq_true rfl), (Nat.le_of_ble_eq_true rfl)⟩ (Nat.le_of_ble_eq_true rfl) (fun r2 h2 q2 => ?_)
    obtain ⟨rfl, e2⟩ := q2
    rw [e2]
    refine T_if_eq (tgt := 39) (pc := 20) d_OW_put_20 (by decide) (fun q20 => ?_) (fun q20 => ?_)
    · refine T_iconst (v := 0) (pc := 39) d_OW_put_39 rfl ?_
      refine T_zret (pc := 40) d_OW_put_40 rfl (by decide) rfl (Nat.le_refl _) ?_
      rw [hP, if_pos (ite_z' q20)]
      exact ⟨rfl, hO, fun _ _ => rfl⟩
    · refine T_aload_n (pc := 23) d_OW_put_23 rfl ?_
      refine T_get (pc := 24) d_OW_put_24 sF_OW_21_OW hX rfl ?_
      refine T_iload_n (pc := 27) d_OW_put_27 rfl ?_
      refine T_iload_n (pc := 28) d_OW_put_28 rfl ?_
      rw [if_neg (ite_n' q20)] at hP
      refine T_ivV (pc := 29) d_OW_put_29 sI_OW_77 (c_Value_store (x := v) hs hva ht hw (by omega)) hva.obj rfl rfl ⟨(Nat.le_of_ble_eq_true rfl), (Nat.le_of_ble_eq_true rfl)⟩ ⟨(Nat.le_of_ble_eq_true rfl), (Nat.le_of_ble_eq_true rfl)⟩ (Nat.le_of_ble_eq_true rfl) (fun r3 h3 q3 => ?_)
      have hS : (stv ns vs i v = none ∧ r3 = some (.int 0) ∧ h3 = h) ∨ ∃ vs', stv ns vs i v = some vs' ∧ r3 = some (.int 1) ∧ Va h3 (x + 6) (x + 1) ns vs' := by
        obtain ⟨q3, _⟩ := q3
        unfold stv
        rw [ht, hw]
        show (((if t.2.2 then _ else _) = none) ∧ _) ∨ _
        by_cases z1 : t.2.2 = true
        · rw [if_pos z1] at q3
          by_cases z2 : w.length < 4
          · rw [if_pos z2] at q3
            exact Or.inr ⟨_, by simp only [z1, z2, if_true], q3.1, q3.2⟩
          · rw [if_neg z2] at q3
            exact Or.inl ⟨by simp only [z1, z2, if_true, if_false], q3.1, q3.2⟩
        · rw [if_neg z1] at q3
          exact Or.inr ⟨_, if_neg z1, q3.1, q3.2⟩
      obtain ⟨_, o3⟩ := q3
      rcases hS with ⟨hS, rfl, rfl⟩ | ⟨vs', hS, rfl, hva3⟩
      · refine T_if_eq (tgt := 39) (pc := 32) d_OW_put_32 (by decide) (fun q32 => ?_) (fun q32 => ?_)
        · refine T_iconst (v := 0) (pc := 39) d_OW_put_39 rfl ?_
          refine T_zret (pc := 40) d_OW_put_40 rfl (by decide) rfl (Nat.le_refl _) ?_
          rw [hP, hS]
          exact ⟨rfl, hO, fun _ _ => rfl⟩
        · exact absurd rfl q32
      · refine T_if_eq (tgt := 39) (pc := 32) d_OW_put_32 (by decide) (fun q32 => ?_) (fun q32 => ?_)
        · exact absurd q32 (by decide)
        · refine T_iconst (v := 1) (pc := 35) d_OW_put_35 rfl ?_
          refine T_goto (tgt := 40) (pc := 36) d_OW_put_36 (by decide) ?_
          refine T_zret (pc := 40) d_OW_put_40 rfl (by decide) rfl (Nat.le_refl _) ?_
          rw [hP, hS]
          exact ⟨rfl, ⟨(o3 _ (by omega) (by omega)).trans hX, hs.same (fun q z1 z2 => o3 q (by omega) (by omega)), hva3, hb.same (o3 _ (by omega) (by omega)) (o3 _ (by omega) (by omega)), ⟨wads, hn.same (fun q z1 z2 => o3 q (by omega) (by omega))⟩, (o3 _ (by omega) (by omega)).trans hF, hsv.out (fun q z1 z2 => o3 q (by omega) (by omega)), ⟨svs, hsva.same (fun q z1 z2 => o3 q (by omega) (by omega))⟩, ⟨cads, hc.same (fun q z1 z2 => o3 q (by omega) (by omega))⟩, hok⟩, fun q z => o3 q (by omega) (by omega)⟩
set_option maxRecDepth 100000 in
set_option maxHeartbeats 4000000 in
theorem c_OW_reset {n : Nat} {x : Nat} {h : aH} {wf : Bool} {ns : List Sf} {vs : List (List Int32)} {db : List Int32} {ms : List Mg} {sl : List Kn} {old : Nat} {tot run : Int32} {cs : List (Int32 × Int32)} {ps : List Pd} (hO : Ow h x wf ns vs db ms sl old tot run cs ps) : Con M_OW_reset 1 0 0 n [.ref x] h (fun r h' => r = none ∧ Ow h' x wf ns (vnil ns) db ms sl old tot run cs ps ∧ ∀ q, q < x ∨ x + 89 < q → h' q = h q) := by
  obtain ⟨hX, hs, hva, hb, ⟨wads, hn⟩, hF, hsv, ⟨svs, hsva⟩, ⟨cads, hc⟩, hok⟩ := id hO
  refine Con.of rfl (Nat.le_of_ble_eq_true rfl) ?_
  refine T_aload_n (pc := 0) d_OW_reset_0 rfl ?_
  refine T_get (pc := 1) d_OW_reset_1 sF_OW_21_OW hX rfl ?_
  refine T_ivV (pc := 4) d_OW_reset_4 sI_OW_80 (c_Value_clear hva hs.le) hva.obj rfl rfl ⟨(Nat.le_of_ble_eq_true rfl), (Nat.le_of_ble_eq_true rfl)⟩ ⟨(Nat.le_of_ble_eq_true rfl), (Nat.le_of_ble_eq_true rfl)⟩ (Nat.le_of_ble_eq_true rfl) (fun r1 h1 q1 => ?_)
  obtain ⟨rfl, hva1, o1⟩ := q1
  refine T_vret (pc := 7) d_OW_reset_7 rfl rfl (Nat.le_refl _) ?_
  exact ⟨rfl, ⟨(o1 _ (by omega) (by omega)).trans hX, hs.same (fun q z1 z2 => o1 q (by omega) (by omega)), hva1, hb.same (o1 _ (by omega) (by omega)) (o1 _ (by omega) (by omega)), ⟨wads, hn.same (fun q z1 z2 => o1 q (by omega) (by omega))⟩, (o1 _ (by omega) (by omega)).trans hF, hsv.out (fun q z1 z2 => o1 q (by omega) (by omega)), ⟨svs, hsva.same (fun q z1 z2 => o1 q (by omega) (by omega))⟩, ⟨cads, hc.same (fun q z1 z2 => o1 q (by omega) (by omega))⟩, hok⟩, fun q z => o1 q (by omega) (by omega)⟩
set_option maxRecDepth 100000 in
set_option maxHeartbeats 4000000 in
theorem c_OW_total {n : Nat} {x : Nat} {h : aH} {wf : Bool} {ns : List Sf} {vs : List (List Int32)} {db : List Int32} {ms : List Mg} {sl : List Kn} {old : Nat} {tot run : Int32} {cs : List (Int32 × Int32)} {ps : List Pd} (hO : Ow h x wf ns vs db ms sl old tot run cs ps) : Con M_OW_total 0 0 0 n [.ref x] h (fun r h' => r = some (.int tot) ∧ h' = h) := by
  obtain ⟨hX, hs, hva, hb, ⟨wads, hn⟩, hF, hsv, ⟨svs, hsva⟩, ⟨cads, hc⟩, hok⟩ := id hO
  refine Con.of rfl (Nat.le_of_ble_eq_true rfl) ?_
  refine T_aload_n (pc := 0) d_OW_total_0 rfl ?_
  refine T_get (pc := 1) d_OW_total_1 sF_OW_52_OW hX rfl ?_
  refine T_get (pc := 4) d_OW_total_4 sF_OW_119_Server hsv.obj rfl ?_
  refine T_iret (pc := 7) d_OW_total_7 rfl rfl (Nat.le_refl _) ?_
  exact ⟨rfl, rfl⟩
set_option maxRecDepth 100000 in
set_option maxHeartbeats 4000000 in
theorem c_OW_runs {n : Nat} {x : Nat} {h : aH} {wf : Bool} {ns : List Sf} {vs : List (List Int32)} {db : List Int32} {ms : List Mg} {sl : List Kn} {old : Nat} {tot run : Int32} {cs : List (Int32 × Int32)} {ps : List Pd} (hO : Ow h x wf ns vs db ms sl old tot run cs ps) : Con M_OW_runs 0 0 0 n [.ref x] h (fun r h' => r = some (.int run) ∧ h' = h) := by
  obtain ⟨hX, hs, hva, hb, ⟨wads, hn⟩, hF, hsv, ⟨svs, hsva⟩, ⟨cads, hc⟩, hok⟩ := id hO
  refine Con.of rfl (Nat.le_of_ble_eq_true rfl) ?_
  refine T_aload_n (pc := 0) d_OW_runs_0 rfl ?_
  refine T_get (pc := 1) d_OW_runs_1 sF_OW_52_OW hX rfl ?_
  refine T_get (pc := 4) d_OW_runs_4 sF_OW_123_Server hsv.obj rfl ?_
  refine T_iret (pc := 7) d_OW_runs_7 rfl rfl (Nat.le_refl _) ?_
  exact ⟨rfl, rfl⟩
set_option maxRecDepth 100000 in
set_option maxHeartbeats 4000000 in
theorem c_OW_flight {n : Nat} {x : Nat} {h : aH} {wf : Bool} {ns : List Sf} {vs : List (List Int32)} {db : List Int32} {ms : List Mg} {sl : List Kn} {old : Nat} {tot run : Int32} {cs : List (Int32 × Int32)} {ps : List Pd} (hO : Ow h x wf ns vs db ms sl old tot run cs ps) : Con M_OW_flight 0 0 0 n [.ref x] h (fun r h' => r = some (.int (nI ms.length)) ∧ h' = h) := by
  obtain ⟨hX, hs, hva, hb, ⟨wads, hn⟩, hF, hsv, ⟨svs, hsva⟩, ⟨cads, hc⟩, hok⟩ := id hO
  refine Con.of rfl (Nat.le_of_ble_eq_true rfl) ?_
  refine T_aload_n (pc := 0) d_OW_flight_0 rfl ?_
  refine T_get (pc := 1) d_OW_flight_1 sF_OW_37_OW hX rfl ?_
  refine T_get (pc := 4) d_OW_flight_4 sF_OW_133_Network hn.obj rfl ?_
  refine T_iret (pc := 7) d_OW_flight_7 rfl rfl (Nat.le_refl _) ?_
  exact ⟨rfl, rfl⟩
set_option maxRecDepth 100000 in
set_option maxHeartbeats 4000000 in
theorem c_OW_status {n : Nat} {x : Nat} {h : aH} {wf : Bool} {ns : List Sf} {vs : List (List Int32)} {db : List Int32} {ms : List Mg} {sl : List Kn} {old : Nat} {tot run : Int32} {cs : List (Int32 × Int32)} {ps : List Pd} (hO : Ow h x wf ns vs db ms sl old tot run cs ps) {y : Int32} : Con M_OW_status 1 0 0 n [.ref x, .int y] h (fun r h' => r = some (.int (if 0 ≤ y ∧ y < nI cs.length then (cs.getD y.toNatClampNeg (0, 0)).1 else -1)) ∧ h' = h) := by
  obtain ⟨hX, hs, hva, hb, ⟨wads, hn⟩, hF, hsv, ⟨svs, hsva⟩, ⟨cads, hc⟩, hok⟩ := id hO
  refine Con.of rfl (Nat.le_of_ble_eq_true rfl) ?_
  refine T_aload_n (pc := 0) d_OW_status_0 rfl ?_
  refine T_get (pc := 1) d_OW_status_1 sF_OW_61_OW hX rfl ?_
  refine T_iload_n (pc := 4) d_OW_status_4 rfl ?_
  refine T_ivV (pc := 5) d_OW_status_5 sI_OW_126 (c_Client_statusOf (x := y) hc) hc.obj rfl rfl ⟨(Nat.le_of_ble_eq_true rfl), (Nat.le_of_ble_eq_true rfl)⟩ ⟨(Nat.le_of_ble_eq_true rfl), (Nat.le_of_ble_eq_true rfl)⟩ (Nat.le_of_ble_eq_true rfl) (fun r1 h1 q1 => ?_)
  obtain ⟨rfl, e1⟩ := q1
  rw [e1]
  refine T_iret (pc := 8) d_OW_status_8 rfl rfl (Nat.le_refl _) ?_
  exact ⟨rfl, rfl⟩
set_option maxRecDepth 100000 in
set_option maxHeartbeats 4000000 in
theorem c_OW_result {n : Nat} {x : Nat} {h : aH} {wf : Bool} {ns : List Sf} {vs : List (List Int32)} {db : List Int32} {ms : List Mg} {sl : List Kn} {old : Nat} {tot run : Int32} {cs : List (Int32 × Int32)} {ps : List Pd} (hO : Ow h x wf ns vs db ms sl old tot run cs ps) {y : Int32} : Con M_OW_result 1 0 0 n [.ref x, .int y] h (fun r h' => r = some (.int (if 0 ≤ y ∧ y < nI cs.length then (cs.getD y.toNatClampNeg (0, 0)).2 else 0)) ∧ h' = h) := by
  obtain ⟨hX, hs, hva, hb, ⟨wads, hn⟩, hF, hsv, ⟨svs, hsva⟩, ⟨cads, hc⟩, hok⟩ := id hO
  refine Con.of rfl (Nat.le_of_ble_eq_true rfl) ?_
  refine T_aload_n (pc := 0) d_OW_result_0 rfl ?_
  refine T_get (pc := 1) d_OW_result_1 sF_OW_61_OW hX rfl ?_
  refine T_iload_n (pc := 4) d_OW_result_4 rfl ?_
  refine T_ivV (pc := 5) d_OW_result_5 sI_OW_130 (c_Client_resultOf (x := y) hc) hc.obj rfl rfl ⟨(Nat.le_of_ble_eq_true rfl), (Nat.le_of_ble_eq_true rfl)⟩ ⟨(Nat.le_of_ble_eq_true rfl), (Nat.le_of_ble_eq_true rfl)⟩ (Nat.le_of_ble_eq_true rfl) (fun r1 h1 q1 => ?_)
  obtain ⟨rfl, e1⟩ := q1
  rw [e1]
  refine T_iret (pc := 8) d_OW_result_8 rfl rfl (Nat.le_refl _) ?_
  exact ⟨rfl, rfl⟩
