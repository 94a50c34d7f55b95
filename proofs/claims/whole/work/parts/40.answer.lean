/-! OnceWire$Server.answer. -/
theorem Sv.rd {h h' : aH} {s w fm old : Nat} {sl : List Kn} {tot run : Int32} (hv : Sv h s w fm sl old tot run) (o : ∀ q, q = s ∨ (s + 4 ≤ q ∧ q ≤ s + 5) ∨ (s + 7 ≤ q ∧ q ≤ s + 16) → h' q = h q) (hr : ∃ p f, Rd h' (s + 6) (s + 4) p f) : Sv h' s w fm sl old tot run := by
  obtain ⟨a, ⟨g, b1, b2, b3, b4⟩, c1, ⟨l, c2⟩, c3⟩ := hv
  refine ⟨a, ⟨g, (o s (by omega)).trans b1, (o _ (by omega)).trans b2, (o _ (by omega)).trans b3, fun i m hm => ?_⟩, fun i hi => ?_, ⟨l, c2.same (o _ (by omega)) (o _ (by omega))⟩, hr⟩
  · have hi := (List.getElem?_eq_some_iff.mp hm).1
    have := a.1
    exact ⟨(b4 i m hm).1, (b4 i m hm).2.same (o _ (by omega)) (o _ (by omega))⟩
  · obtain ⟨l', hl'⟩ := c1 i hi
    exact ⟨l', hl'.same (o _ (by omega)) (o _ (by omega))⟩
theorem Sv.obj {h : aH} {s w fm old : Nat} {sl : List Kn} {tot run : Int32} (hv : Sv h s w fm sl old tot run) : h s = some (.inr (6, svO s w fm sl.length old tot run)) := by
  obtain ⟨_, ⟨_, q, _⟩, _⟩ := hv
  exact q
/-- its counters are written -/
theorem Sv.cnt {h h' : aH} {s w fm old : Nat} {sl : List Kn} {tot run tot' run' : Int32} (hv : Sv h s w fm sl old tot run) (g : h' s = some (.inr (6, svO s w fm sl.length old tot' run'))) (o : ∀ q, q ≠ s → h' q = h q) : Sv h' s w fm sl old tot' run' := by
  obtain ⟨a, ⟨g0, b1, b2, b3, b4⟩, c1, ⟨l, c2⟩, ⟨p, f, c3⟩⟩ := hv
  refine ⟨a, ⟨g0, g, (o _ (by omega)).trans b2, (o _ (by omega)).trans b3, fun i m hm => ⟨(b4 i m hm).1, (b4 i m hm).2.same (o _ (by omega)) (o _ (by omega))⟩⟩, fun i hi => ?_, ⟨l, c2.same (o _ (by omega)) (o _ (by omega))⟩, ⟨p, f, (o _ (by omega)).trans c3⟩⟩
  obtain ⟨l', hl'⟩ := c1 i hi
  exact ⟨l', hl'.same (o _ (by omega)) (o _ (by omega))⟩
/-- a format: of words, or of tags -/
def Fo (h : aH) (fm sa : Nat) (wf : Bool) : Prop := h fm = some (.inr (if wf then 9 else 7, [.ref sa]))
def dec (wf : Bool) (ns : List Sf) (r : List Int32) : Option (List (List Int32)) := if wf then decW ns r else decT ns r
def enc (wf : Bool) (ns : List Sf) (vs : List (List Int32)) : List Int32 := if wf then encW ns vs else encT ns vs
def psh (ms : List Mg) (m : Mg) : List Mg := if ms.length < 16 then ms ++ [m] else ms
abbrev An : Type := Int32 × Int32 × Int32 × Int32 × Int32
/-- answer, status, result, total, runs -/
def ansF (wf : Bool) (ns : List Sf) (l : List Int32) (pr tot run : Int32) : An := if pr < 0 ∨ 3 < pr then (2, 1, 0, tot, run) else match dec wf ns (l.drop 12) with
  | none => (3, 2, 0, tot, run)
  | some vs => (0, 0, rnR pr.toNatClampNeg tot (dgF ns vs 0), rnT pr.toNatClampNeg tot (dgF ns vs 0), run + 1)
def ansQ (s w fm sa old : Nat) (wf : Bool) (sl : List Kn) (tot run : Int32) (ads : List Nat) (ms : List Mg) (ns : List Sf) (h : aH) (xid pr : Int32) (l : List Int32) : aQ := fun r h' => r = some (.int (ansF wf ns l pr tot run).1) ∧ Sv h' s w fm (adS sl old (xid, repB xid (ansF wf ns l pr tot run).2.1 (ansF wf ns l pr tot run).2.2.1)) (slO sl.length old) (ansF wf ns l pr tot run).2.2.2.1 (ansF wf ns l pr tot run).2.2.2.2 ∧ Nw h' w ads (psh ms (repB xid (ansF wf ns l pr tot run).2.1 (ansF wf ns l pr tot run).2.2.1, false)) ∧ (∃ vs', Va h' (s + 1) sa ns vs') ∧ ∀ q, q < w ∨ w + 36 < q → q < s ∨ s + 16 < q → h' q = h q
set_option maxRecDepth 100000 in
set_option maxHeartbeats 4000000 in
theorem c_Server_answer {n s w fm sa old : Nat} {wf : Bool} {sl : List Kn} {tot run : Int32} {ads : List Nat} {ms : List Mg} {ns : List Sf} {vs : List (List Int32)} {h : aH} (hv : Sv h s w fm sl old tot run) (hn : Nw h w ads ms) (hs : Sc h sa ns) (hva : Va h (s + 1) sa ns vs) (hF : Fo h fm sa wf) (d0 : sa + 4 < w) (d1 : w + 36 < fm) (d2 : fm < s) {xid pr : Int32} {l : List Int32} (hb : By h (s + 4) 200 l) (h12 : 12 ≤ l.length) : Con M_Server_answer 4 0 0 n [.ref s, .int xid, .int pr] h (ansQ s w fm sa old wf sl tot run ads ms ns h xid pr l) := by
  obtain ⟨p0, f0, hrd0⟩ := hv.2.2.2.2
  refine Con.of rfl (Nat.le_of_ble_eq_true rfl) ?_
  refine T_iload_n (pc := 0) d_Server_answer_0 rfl ?_
  refine T_if_lt (tgt := 9) (pc := 1) d_Server_answer_1 (by decide) (fun q1 => ?_) (fun q1 => ?_)
  · refine T_aload_n (pc := 9) d_Server_answer_9 rfl ?_
    refine T_iload_n (pc := 10) d_Server_answer_10 rfl ?_
    refine T_iconst (v := 1) (pc := 11) d_Server_answer_11 rfl ?_
    refine T_iconst (v := 0) (pc := 12) d_Server_answer_12 rfl ?_
    refine T_ivV (pc := 13) d_Server_answer_13 sI_Server_85 (c_Server_reply (xid := xid) (stt := 1) (res := 0) hv hn (by omega)) hv.obj rfl rfl ⟨(Nat.le_of_ble_eq_true rfl), (Nat.le_of_ble_eq_true rfl)⟩ ⟨(Nat.le_of_ble_eq_true rfl), (Nat.le_of_ble_eq_true rfl)⟩ (Nat.le_of_ble_eq_true rfl) (fun r4 h4 q4 => ?_)
    obtain ⟨rfl, hv4, hn4, o4⟩ := q4
    refine T_iconst (v := 2) (pc := 16) d_Server_answer_16 rfl ?_
    refine T_iret (pc := 17) d_Server_answer_17 rfl rfl (Nat.le_refl _) ?_
    unfold ansQ
    have hA : ansF wf ns l pr tot run = (2, 1, 0, tot, run) := by
      rw [ansF, if_pos (by first | exact Or.inl q1 | exact Or.inr (Int32.not_le.mp q6))]
    rw [hA]
    exact ⟨rfl, hv4, hn4, ⟨vs, hva.same (fun q z1 z2 => o4 q (by omega) (by omega))⟩, fun q z1 z2 => o4 q z1 (by omega)⟩
  · refine T_iload_n (pc := 4) d_Server_answer_4 rfl ?_
    refine T_iconst (v := 3) (pc := 5) d_Server_answer_5 rfl ?_
    refine T_icmp_le (tgt := 18) (pc := 6) d_Server_answer_6 (by decide) (fun q6 => ?_) (fun q6 => ?_)
    · have hpr : ¬ (pr < 0 ∨ 3 < pr) := by
        rintro (q | q)
        · exact q1 q
        · exact absurd q6 (Int32.not_le.mpr q)
      refine T_aload_n (pc := 18) d_Server_answer_18 rfl ?_
      refine T_get (pc := 19) d_Server_answer_19 sF_Server_25_Server hv.obj rfl ?_
      refine T_bipush (v := 12) (pc := 22) d_Server_answer_22 rfl ?_
      refine T_ivV (pc := 24) d_Server_answer_24 sI_Server_89 (c_Reader_startAt (i := 12) hrd0 (by decide)) hrd0 rfl rfl ⟨(Nat.le_of_ble_eq_true rfl), (Nat.le_of_ble_eq_true rfl)⟩ ⟨(Nat.le_of_ble_eq_true rfl), (Nat.le_of_ble_eq_true rfl)⟩ (Nat.le_of_ble_eq_true rfl) (fun r1 h1 q1 => ?_)
      obtain ⟨rfl, hrd1, o1⟩ := q1
      have hs1 := hs.same (h' := h1) (fun q z1 z2 => o1 q (by omega))
      have hva1 := hva.same (h' := h1) (fun q z1 z2 => o1 q (by omega))
      have hb1 := hb.same (o1 (s + 4) (by omega)) (o1 (s + 4 + 1) (by omega))
      have hF1 : Fo h1 fm sa wf := (o1 fm (by omega)).trans hF
      have hn1 := hn.same (h' := h1) (fun q z1 z2 => o1 q (by omega))
      refine T_aload_n (pc := 27) d_Server_answer_27 rfl ?_
      refine T_get (pc := 28) d_Server_answer_28 sF_Server_54_Server ((o1 s (by omega)).trans hv.obj) rfl ?_
      refine T_aload_n (pc := 31) d_Server_answer_31 rfl ?_
      refine T_get (pc := 32) d_Server_answer_32 sF_Server_25_Server ((o1 s (by omega)).trans hv.obj) rfl ?_
      refine T_aload_n (pc := 35) d_Server_answer_35 rfl ?_
      refine T_get (pc := 36) d_Server_answer_36 sF_Server_58_Server ((o1 s (by omega)).trans hv.obj) rfl ?_
      have key : ∃ Q : aQ, (∀ r h', Q r h' → (∀ q, q ≠ s + 2 → q ≠ s + 3 → q ≠ s + 6 → h' q = h1 q) ∧ (∃ p' f', Rd h' (s + 6) (s + 4) p' f') ∧ match dec wf ns (l.drop 12) with | some vs' => r = some (.int 1) ∧ Va h' (s + 1) sa ns vs' | none => r = some (.int 0) ∧ ∃ vs', Va h' (s + 1) sa ns vs') ∧ ((wf = true ∧ Con M_WordFormat_read 3 0 0 n [.ref fm, .ref (s + 6), .ref (s + 1)] h1 Q) ∨ (wf = false ∧ Con M_TaggedFormat_read 3 0 0 n [.ref fm, .ref (s + 6), .ref (s + 1)] h1 Q)) := by
        cases wf
        · refine ⟨_, ?_, Or.inr ⟨rfl, c_TaggedFormat_read (by decide) (by omega) (by omega) (by omega) (by omega) hF1 hs1 hva1 hrd1 hb1 h12⟩⟩
          exact fun r h' q => q
        · refine ⟨_, ?_, Or.inl ⟨rfl, c_WordFormat_read (by decide) (by omega) (by omega) (by omega) (by omega) hF1 hs1 hva1 hrd1 hb1 h12⟩⟩
          exact fun r h' q => q
      obtain ⟨Qr, hQr, hcon⟩ := key
      have fin : ∀ r2 h2, Qr r2 h2 → Tri M_Server_answer (a_rm 4 0 0) (a_Z 0 0 (ansQ s w fm sa old wf sl tot run ads ms ns h xid pr l)) (39 + 3) [(0, .ref s), (1, .int xid), (2, .int pr)] (r2.toList ++ []) n h2 0 0 := by
        intro r2 h2 q2
        obtain ⟨o2, hrd2, q2⟩ := hQr r2 h2 q2
        have hv2 : Sv h2 s w fm sl old tot run := hv.rd (fun q z => (o2 q (by omega) (by omega) (by omega)).trans (o1 q (by omega))) hrd2
        have hn2 := hn1.same (h' := h2) (fun q z1 z2 => o2 q (by omega) (by omega) (by omega))
        have hs2 := hs1.same (h' := h2) (fun q z1 z2 => o2 q (by omega) (by omega) (by omega))
        cases hd : dec wf ns (l.drop 12) with
        | none =>
          rw [hd] at q2
          obtain ⟨rfl, vs2, hva2⟩ := q2
          have hA : ansF wf ns l pr tot run = (3, 2, 0, tot, run) := by rw [ansF, if_neg hpr, hd]
          refine T_if_ne (tgt := 54) (pc := 42) d_Server_answer_42 (by decide) (fun q42 => ?_) (fun q42 => ?_)
          · exact absurd q42 (by decide)
          · refine T_aload_n (pc := 45) d_Server_answer_45 rfl ?_
            refine T_iload_n (pc := 46) d_Server_answer_46 rfl ?_
            refine T_iconst (v := 2) (pc := 47) d_Server_answer_47 rfl ?_
            refine T_iconst (v := 0) (pc := 48) d_Server_answer_48 rfl ?_
            refine T_ivV (pc := 49) d_Server_answer_49 sI_Server_85 (c_Server_reply (xid := xid) (stt := 2) (res := 0) hv2 hn2 (by omega)) hv2.obj rfl rfl ⟨(Nat.le_of_ble_eq_true rfl), (Nat.le_of_ble_eq_true rfl)⟩ ⟨(Nat.le_of_ble_eq_true rfl), (Nat.le_of_ble_eq_true rfl)⟩ (Nat.le_of_ble_eq_true rfl) (fun r4 h4 q4 => ?_)
            obtain ⟨rfl, hv4, hn4, o4⟩ := q4
            refine T_iconst (v := 3) (pc := 52) d_Server_answer_52 rfl ?_
            refine T_iret (pc := 53) d_Server_answer_53 rfl rfl (Nat.le_refl _) ?_
            unfold ansQ
            rw [hA]
            exact ⟨rfl, hv4, hn4, ⟨vs2, hva2.same (fun q z1 z2 => o4 q (by omega) (by omega))⟩, fun q z1 z2 => (o4 q z1 (by omega)).trans ((o2 q (by omega) (by omega) (by omega)).trans (o1 q (by omega)))⟩
        | some vs2 =>
          rw [hd] at q2
          obtain ⟨rfl, hva2⟩ := q2
          obtain ⟨kp, hkp, rfl⟩ : ∃ j : Nat, j < 4 ∧ pr = nI j := by
            rcases pk_ix pr (n := 4) (by decide) with q | q | q
            · exact absurd (Or.inl q) hpr
            · exact absurd (Or.inr (show 3 < pr from Int32.lt_of_lt_of_le (by decide) q)) hpr
            · exact q
          have hA : ansF wf ns l (nI kp) tot run = (0, 0, rnR kp tot (dgF ns vs2 0), rnT kp tot (dgF ns vs2 0), run + 1) := by
            rw [ansF, if_neg hpr, hd]
            simp only [nI_clamp (show kp < 2 ^ 31 by omega)]
          refine T_if_ne (tgt := 54) (pc := 42) d_Server_answer_42 (by decide) (fun q42 => ?_) (fun q42 => ?_)
          · refine T_aload_n (pc := 54) d_Server_answer_54 rfl ?_
            refine T_iload_n (pc := 55) d_Server_answer_55 rfl ?_
            refine T_iconst (v := 0) (pc := 56) d_Server_answer_56 rfl ?_
            refine T_aload_n (pc := 57) d_Server_answer_57 rfl ?_
            refine T_iload_n (pc := 58) d_Server_answer_58 rfl ?_
            refine T_aload_n (pc := 59) d_Server_answer_59 rfl ?_
            refine T_get (pc := 60) d_Server_answer_60 sF_Server_58_Server hv2.obj rfl ?_
            refine T_ivV (pc := 63) d_Server_answer_63 sI_Server_98 (c_Value_digest hs2 hva2) hva2.obj rfl rfl ⟨(Nat.le_of_ble_eq_true rfl), (Nat.le_of_ble_eq_true rfl)⟩ ⟨(Nat.le_of_ble_eq_true rfl), (Nat.le_of_ble_eq_true rfl)⟩ (Nat.le_of_ble_eq_true rfl) (fun r5 h5 q5 => ?_)
            obtain ⟨rfl, e5⟩ := q5
            rw [e5]
            refine T_ivV (pc := 66) d_Server_answer_66 sI_Server_104 (c_Server_run (k := kp) (by omega) hv2.obj) hv2.obj rfl rfl ⟨(Nat.le_of_ble_eq_true rfl), (Nat.le_of_ble_eq_true rfl)⟩ ⟨(Nat.le_of_ble_eq_true rfl), (Nat.le_of_ble_eq_true rfl)⟩ (Nat.le_of_ble_eq_true rfl) (fun r6 h6 q6 => ?_)
            obtain ⟨rfl, hX6, o6⟩ := q6
            have hv6 := hv2.cnt hX6 o6
            have hn6 := hn2.same (h' := h6) (fun q z1 z2 => o6 q (by omega))
            refine T_ivV (pc := 69) d_Server_answer_69 sI_Server_85 (c_Server_reply (xid := xid) (stt := 0) (res := _) hv6 hn6 (by omega)) hv6.obj rfl rfl ⟨(Nat.le_of_ble_eq_true rfl), (Nat.le_of_ble_eq_true rfl)⟩ ⟨(Nat.le_of_ble_eq_true rfl), (Nat.le_of_ble_eq_true rfl)⟩ (Nat.le_of_ble_eq_true rfl) (fun r4 h4 q4 => ?_)
            obtain ⟨rfl, hv4, hn4, o4⟩ := q4
            refine T_iconst (v := 0) (pc := 72) d_Server_answer_72 rfl ?_
            refine T_iret (pc := 73) d_Server_answer_73 rfl rfl (Nat.le_refl _) ?_
            unfold ansQ
            rw [hA]
            exact ⟨rfl, hv4, hn4, ⟨vs2, (hva2.same (fun q z1 z2 => o6 q (by omega))).same (fun q z1 z2 => o4 q (by omega) (by omega))⟩, fun q z1 z2 => (o4 q z1 (by omega)).trans ((o6 q (by omega)).trans ((o2 q (by omega) (by omega) (by omega)).trans (o1 q (by omega))))⟩
          · exact absurd q42 (by decide)
      rcases hcon with ⟨hw, hcon⟩ | ⟨hw, hcon⟩
      · subst hw
        exact T_ivA (pc := 39) d_Server_answer_39 sI_Server_92_WordFormat hcon hF1 rfl rfl ⟨(Nat.le_of_ble_eq_true rfl), (Nat.le_of_ble_eq_true rfl)⟩ ⟨(Nat.le_of_ble_eq_true rfl), (Nat.le_of_ble_eq_true rfl)⟩ (Nat.le_of_ble_eq_true rfl) fin
      · subst hw
        exact T_ivA (pc := 39) d_Server_answer_39 sI_Server_92_TaggedFormat hcon hF1 rfl rfl ⟨(Nat.le_of_ble_eq_true rfl), (Nat.le_of_ble_eq_true rfl)⟩ ⟨(Nat.le_of_ble_eq_true rfl), (Nat.le_of_ble_eq_true rfl)⟩ (Nat.le_of_ble_eq_true rfl) fin
    · refine T_aload_n (pc := 9) d_Server_answer_9 rfl ?_
      refine T_iload_n (pc := 10) d_Server_answer_10 rfl ?_
      refine T_iconst (v := 1) (pc := 11) d_Server_answer_11 rfl ?_
      refine T_iconst (v := 0) (pc := 12) d_Server_answer_12 rfl ?_
      refine T_ivV (pc := 13) d_Server_answer_13 sI_Server_85 (c_Server_reply (xid := xid) (stt := 1) (res := 0) hv hn (by omega)) hv.obj rfl rfl ⟨(Nat.le_of_ble_eq_true rfl), (Nat.le_of_ble_eq_true rfl)⟩ ⟨(Nat.le_of_ble_eq_true rfl), (Nat.le_of_ble_eq_true rfl)⟩ (Nat.le_of_ble_eq_true rfl) (fun r4 h4 q4 => ?_)
      obtain ⟨rfl, hv4, hn4, o4⟩ := q4
      refine T_iconst (v := 2) (pc := 16) d_Server_answer_16 rfl ?_
      refine T_iret (pc := 17) d_Server_answer_17 rfl rfl (Nat.le_refl _) ?_
      unfold ansQ
      have hA : ansF wf ns l pr tot run = (2, 1, 0, tot, run) := by
        rw [ansF, if_pos (by first | exact Or.inl q1 | exact Or.inr (Int32.not_le.mp q6))]
      rw [hA]
      exact ⟨rfl, hv4, hn4, ⟨vs, hva.same (fun q z1 z2 => o4 q (by omega) (by omega))⟩, fun q z1 z2 => o4 q z1 (by omega)⟩
