/-! OnceWire$Server.receive. -/
theorem MQ.imp {below : List Frame} {Qc Qc' : Array Value → State → Outcome → State → Prop} {a : Array Value} {s : State} {mc ms : Nat} {free : Addr → Prop} (hq : ∀ o t, Qc a s o t → Qc' a s o t) {t : State} (h : MQ below Qc a s mc ms free t) : MQ below Qc' a s mc ms free t := by
  obtain ⟨o, h1, h2, h3, h4⟩ := h
  exact ⟨o, h1, h2, hq o t h3, h4⟩
/-- a weaker end -/
theorem T_imp {μ : aM} {R : Room} {mc ms : Nat} {Q Q' : aQ} {pc : Nat} {L : List (Nat × Value)} {S : List Value} {n : Nat} {h : aH} {cells slots : Nat} (hq : ∀ r h', Q r h' → Q' r h') (k : Tri μ R (a_Z mc ms Q) pc L S n h cells slots) : Tri μ R (a_Z mc ms Q') pc L S n h cells slots := by
  intro p l e s m args below meth c κ D b bs X0 H locs ls C T V
  have k := k p l e s m args below meth c κ D b bs X0 H locs ls C T V
  intro T1 hT X
  obtain ⟨t, h1, h2⟩ := k T1 hT X
  refine ⟨t, h1, MQ.imp (fun o t ho => ?_) h2⟩
  obtain ⟨⟨r, n', h', g1, g2⟩, g3⟩ := ho
  exact ⟨⟨r, n', h', hq r h' g1, g2⟩, g3⟩
theorem Sv.rec {h h' : aH} {s w fm old : Nat} {sl : List Kn} {tot run : Int32} (hv : Sv h s w fm sl old tot run) (o : ∀ q, q ≠ s + 4 → q ≠ s + 4 + 1 → h' q = h q) (hr : ∃ l, By h' (s + 4) 200 l) : Sv h' s w fm sl old tot run := by
  obtain ⟨a, ⟨g, b1, b2, b3, b4⟩, c1, _, ⟨p, f, c3⟩⟩ := hv
  refine ⟨a, ⟨g, (o s (by omega) (by omega)).trans b1, (o _ (by omega) (by omega)).trans b2, (o _ (by omega) (by omega)).trans b3, fun i m hm => ⟨(b4 i m hm).1, (b4 i m hm).2.same (o _ (by omega) (by omega)) (o _ (by omega) (by omega))⟩⟩, fun i hi => ?_, hr, ⟨p, f, (o _ (by omega) (by omega)).trans c3⟩⟩
  obtain ⟨l', hl'⟩ := c1 i hi
  exact ⟨l', hl'.same (o _ (by omega) (by omega)) (o _ (by omega) (by omega))⟩
theorem Sv.out {h h' : aH} {s w fm old : Nat} {sl : List Kn} {tot run : Int32} (hv : Sv h s w fm sl old tot run) (o : ∀ q, s ≤ q → q ≤ s + 16 → h' q = h q) : Sv h' s w fm sl old tot run := by
  obtain ⟨p, f, c3⟩ := hv.2.2.2.2
  exact hv.rd (fun q z => o q (by omega) (by omega)) ⟨p, f, (o _ (by omega) (by omega)).trans c3⟩
def kfF (x : Int32) : List Kn → Nat → Option Nat
  | [], _ => none
  | m :: t, i => if m.1 = x then some i else kfF x t (i + 1)
abbrev Ss : Type := Int32 × List Kn × Nat × Int32 × Int32 × List Mg
def srvG (wf : Bool) (ns : List Sf) (sl : List Kn) (old : Nat) (tot run : Int32) (ms : List Mg) (l : List Int32) : Ss := match kfF (wat l 0) sl 0 with
  | some i => (1, sl, old, tot, run, psh ms ((sl.getD i (0, [])).2, false))
  | none => ((ansF wf ns l (wat l 8) tot run).1, adS sl old (wat l 0, repB (wat l 0) (ansF wf ns l (wat l 8) tot run).2.1 (ansF wf ns l (wat l 8) tot run).2.2.1), slO sl.length old, (ansF wf ns l (wat l 8) tot run).2.2.2.1, (ansF wf ns l (wat l 8) tot run).2.2.2.2, psh ms (repB (wat l 0) (ansF wf ns l (wat l 8) tot run).2.1 (ansF wf ns l (wat l 8) tot run).2.2.1, false))
def srvF (wf : Bool) (ns : List Sf) (sl : List Kn) (old : Nat) (tot run : Int32) (ms : List Mg) (l2 : List Int32) : Ss := match uw l2.length l2 with
  | none => (-2, sl, old, tot, run, ms)
  | some l => if l.length < 12 then (-2, sl, old, tot, run, ms) else if wat l 4 ≠ 0 then (-3, sl, old, tot, run, ms) else srvG wf ns sl old tot run ms l
def srvQ (s w fm sa : Nat) (ads : List Nat) (ns : List Sf) (h : aH) (X : Ss) : aQ := fun r h' => r = some (.int X.1) ∧ Sv h' s w fm X.2.1 X.2.2.1 X.2.2.2.1 X.2.2.2.2.1 ∧ Nw h' w ads X.2.2.2.2.2 ∧ (∃ vs', Va h' (s + 1) sa ns vs') ∧ ∀ q, q < w ∨ w + 36 < q → q < s ∨ s + 16 < q → h' q = h q
set_option maxRecDepth 100000 in
set_option maxHeartbeats 4000000 in
theorem c_Server_receive_loop {n a2 s w fm sa old : Nat} {wf : Bool} {sl : List Kn} {tot run : Int32} {ads : List Nat} {ms : List Mg} {ns : List Sf} {vs : List (List Int32)} {h : aH} (hv : Sv h s w fm sl old tot run) (hn : Nw h w ads ms) (hs : Sc h sa ns) (hva : Va h (s + 1) sa ns vs) (hF : Fo h fm sa wf) (d0 : sa + 4 < w) (d1 : w + 36 < fm) (d2 : fm < s) {l : List Int32} (hb : By h (s + 4) 200 l) (h12 : 12 ≤ l.length) : ∀ (ts : List Kn) (i : Nat), sl.drop i = ts → i ≤ sl.length → srvG wf ns sl old tot run ms l = (match kfF (wat l 0) ts i with
  | some i => (1, sl, old, tot, run, psh ms ((sl.getD i (0, [])).2, false))
  | none => ((ansF wf ns l (wat l 8) tot run).1, adS sl old (wat l 0, repB (wat l 0) (ansF wf ns l (wat l 8) tot run).2.1 (ansF wf ns l (wat l 8) tot run).2.2.1), slO sl.length old, (ansF wf ns l (wat l 8) tot run).2.2.2.1, (ansF wf ns l (wat l 8) tot run).2.2.2.2, psh ms (repB (wat l 0) (ansF wf ns l (wat l 8) tot run).2.1 (ansF wf ns l (wat l 8) tot run).2.2.1, false))) → Tri M_Server_receive (a_rm 5 0 0) (a_Z 0 0 (srvQ s w fm sa ads ns h (srvG wf ns sl old tot run ms l))) 51 [(3, .int (nI i)), (2, .int (wat l 0)), (0, .ref s), (1, .ref a2)] [] n h 0 0 := by
  have hl4 := hv.1.1
  obtain ⟨_, ⟨g, hX, hG, hA, b4⟩, c1, _, _⟩ := id hv
  intro ts
  induction ts with
  | nil =>
    intro i hts hi hS
    have hi2 : sl.length ≤ i := List.drop_eq_nil_iff.mp hts
    have hS : srvG wf ns sl old tot run ms l = _ := hS
    refine T_iload_n (pc := 51) d_Server_receive_51 rfl ?_
    refine T_aload_n (pc := 52) d_Server_receive_52 rfl ?_
    refine T_get (pc := 53) d_Server_receive_53 sF_Server_37_Server hX rfl ?_
    refine T_icmp_ge (tgt := 91) (pc := 56) d_Server_receive_56 (by decide) (fun q56 => ?_) (fun q56 => ?_)
    · refine T_aload_n (pc := 91) d_Server_receive_91 rfl ?_
      refine T_iload_n (pc := 92) d_Server_receive_92 rfl ?_
      refine T_aload_n (pc := 93) d_Server_receive_93 rfl ?_
      refine T_get (pc := 94) d_Server_receive_94 sF_Server_14_Server hX rfl ?_
      refine T_bipush (v := 8) (pc := 97) d_Server_receive_97 rfl ?_
      refine T_ivV (pc := 99) d_Server_receive_99 sI_Server_71 (c_Bytes_wordAt (k := 8) hb (by decide) (by omega)) hb.obj rfl rfl ⟨(Nat.le_of_ble_eq_true rfl), (Nat.le_of_ble_eq_true rfl)⟩ ⟨(Nat.le_of_ble_eq_true rfl), (Nat.le_of_ble_eq_true rfl)⟩ (Nat.le_of_ble_eq_true rfl) (fun r1 h1 q1 => ?_)
      obtain ⟨rfl, e1⟩ := q1
      rw [e1]
      refine T_ivV (pc := 102) d_Server_receive_102 sI_Server_81 (c_Server_answer (wf := wf) hv hn hs hva hF d0 d1 d2 hb h12) hX rfl rfl ⟨(Nat.le_of_ble_eq_true rfl), (Nat.le_of_ble_eq_true rfl)⟩ ⟨(Nat.le_of_ble_eq_true rfl), (Nat.le_of_ble_eq_true rfl)⟩ (Nat.le_of_ble_eq_true rfl) (fun r2 h2 q2 => ?_)
      obtain ⟨rfl, z1, z2, z3, z4⟩ := q2
      refine T_iret (pc := 105) d_Server_receive_105 rfl rfl (Nat.le_refl _) ?_
      unfold srvQ
      rw [hS]
      exact ⟨rfl, z1, z2, z3, z4⟩
    · exact absurd (nI_le hi2 (by omega)) q56
  | cons m ts ih =>
    intro i hts hi hS
    have hi2 : i < sl.length := by
      have := congrArg List.length hts
      simp at this
      omega
    have hm : sl[i]? = some m := by
      have := congrArg (fun l => l[0]?) hts
      simpa using this
    obtain ⟨hm1, hm2⟩ := b4 i m hm
    have hts2 : sl.drop (i + 1) = ts := by
      rw [← List.drop_drop, hts]
      rfl
    refine T_iload_n (pc := 51) d_Server_receive_51 rfl ?_
    refine T_aload_n (pc := 52) d_Server_receive_52 rfl ?_
    refine T_get (pc := 53) d_Server_receive_53 sF_Server_37_Server hX rfl ?_
    refine T_icmp_ge (tgt := 91) (pc := 56) d_Server_receive_56 (by decide) (fun q56 => ?_) (fun q56 => ?_)
    · exact absurd q56 (nI_ge hi2 (by omega))
    · refine T_aload_n (pc := 59) d_Server_receive_59 rfl ?_
      refine T_get (pc := 60) d_Server_receive_60 sF_Server_29_Server hX rfl ?_
      refine T_iload_n (pc := 63) d_Server_receive_63 rfl ?_
      refine T_iald (pc := 64) d_Server_receive_64 hG (vp_in_nI (by omega) (by decide)) ?_
      refine T_iload_n (pc := 65) d_Server_receive_65 rfl ?_
      refine T_icmp_ne (tgt := 85) (pc := 66) d_Server_receive_66 (by decide) (fun q66 => ?_) (fun q66 => ?_)
      · refine T_iinc (pc := 85) d_Server_receive_85 rfl (nI_1 i) (Nat.le_of_ble_eq_true rfl) rfl ?_
        refine T_goto (tgt := 51) (pc := 88) d_Server_receive_88 (by decide) ?_
        rw [nI_clamp (by omega), hm1] at q66
        rw [kfF, if_neg q66] at hS
        exact ih (i + 1) hts2 (by omega) hS
      · refine T_aload_n (pc := 69) d_Server_receive_69 rfl ?_
        refine T_get (pc := 70) d_Server_receive_70 sF_Server_50_Server hX rfl ?_
        refine T_aload_n (pc := 73) d_Server_receive_73 rfl ?_
        refine T_get (pc := 74) d_Server_receive_74 sF_Server_33_Server hX rfl ?_
        refine T_iload_n (pc := 77) d_Server_receive_77 rfl ?_
        refine T_aald (pc := 78) d_Server_receive_78 hA (vp_in_nI (by omega) (by decide)) (by rw [nI_clamp (by omega)]; exact rws_at (by omega)) ?_
        refine T_iconst (v := 0) (pc := 79) d_Server_receive_79 rfl ?_
        rw [nI_clamp (by omega), hm1] at q66
        rw [kfF, if_pos q66] at hS
        have hS : srvG wf ns sl old tot run ms l = (1, sl, old, tot, run, psh ms ((sl.getD i (0, [])).2, false)) := hS
        have hm3 := hm2.le
        refine T_ivV (pc := 80) d_Server_receive_80 sI_Server_75 (c_Network_send (b := false) hn hm2 (by decide) (by omega) (fun _ q0 hq0 e => by have := hn.1.2.2.1 q0 (List.mem_of_getElem? hq0); omega)) hn.obj rfl rfl ⟨(Nat.le_of_ble_eq_true rfl), (Nat.le_of_ble_eq_true rfl)⟩ ⟨(Nat.le_of_ble_eq_true rfl), (Nat.le_of_ble_eq_true rfl)⟩ (Nat.le_of_ble_eq_true rfl) (fun r9 h9 q9 => ?_)
        have hn9 : Nw h9 w ads (psh ms (m.2, false)) ∧ r9 = none ∧ ∀ q, q < w ∨ w + 36 < q → h9 q = h q := by
          unfold psh
          split at q9
          · rename_i hlt
            rw [if_pos hlt]
            exact ⟨q9.2.1, q9.1, q9.2.2⟩
          · rename_i hlt
            rw [if_neg hlt, q9.2]
            exact ⟨hn, q9.1, fun _ _ => rfl⟩
        obtain ⟨hn9, rfl, o9⟩ := hn9
        refine T_iconst (v := 1) (pc := 83) d_Server_receive_83 rfl ?_
        refine T_iret (pc := 84) d_Server_receive_84 rfl rfl (Nat.le_refl _) ?_
        unfold srvQ
        rw [hS]
        refine ⟨rfl, hv.out (fun q z1 z2 => o9 q (by omega)), ?_, ⟨vs, hva.same (fun q z1 z2 => o9 q (by omega))⟩, fun q z1 _ => o9 q z1⟩
        show Nw _ w ads (psh ms ((sl.getD i (0, [])).2, false))
        rw [List.getD_eq_getElem?_getD, hm]
        exact hn9
set_option maxRecDepth 100000 in
set_option maxHeartbeats 4000000 in
theorem c_Server_receive {n s w fm sa old : Nat} {wf : Bool} {sl : List Kn} {tot run : Int32} {ads : List Nat} {ms : List Mg} {ns : List Sf} {vs : List (List Int32)} {h : aH} (hv : Sv h s w fm sl old tot run) (hn : Nw h w ads ms) (hs : Sc h sa ns) (hva : Va h (s + 1) sa ns vs) (hF : Fo h fm sa wf) (d0 : sa + 4 < w) (d1 : w + 36 < fm) (d2 : fm < s) {a2 cap2 : Nat} {l2 : List Int32} (hb2 : By h a2 cap2 l2) (hc2 : cap2 < 2 ^ 29) (hne : a2 ≠ s + 4) (hr : l2.length ≤ 200) : Con M_Server_receive 5 0 0 n [.ref s, .ref a2] h (srvQ s w fm sa ads ns h (srvF wf ns sl old tot run ms l2)) := by
  obtain ⟨lr, hbr⟩ := hv.2.2.2.1
  refine Con.of rfl (Nat.le_of_ble_eq_true rfl) ?_
  refine T_aload_n (pc := 0) d_Server_receive_0 rfl ?_
  refine T_aload_n (pc := 1) d_Server_receive_1 rfl ?_
  refine T_get (pc := 2) d_Server_receive_2 sF_Server_14_Server hv.obj rfl ?_
  refine T_ivS (pc := 5) d_Server_receive_5 sI_Server_62 (c_Fragments_unwrap hbr hb2 (by decide) hc2 hne hr) rfl rfl ⟨(Nat.le_of_ble_eq_true rfl), (Nat.le_of_ble_eq_true rfl)⟩ ⟨(Nat.le_of_ble_eq_true rfl), (Nat.le_of_ble_eq_true rfl)⟩ (Nat.le_of_ble_eq_true rfl) (fun r1 h1 q1 => ?_)
  obtain ⟨o1, q1⟩ := q1
  have hn1 := hn.same (h' := h1) (fun q z1 z2 => o1 q (by omega) (by omega))
  have hs1 := hs.same (h' := h1) (fun q z1 z2 => o1 q (by omega) (by omega))
  have hva1 := hva.same (h' := h1) (fun q z1 z2 => o1 q (by omega) (by omega))
  have hF1 : Fo h1 fm sa wf := (o1 fm (by omega) (by omega)).trans hF
  cases hu : uw l2.length l2 with
  | none =>
    rw [hu] at q1
    obtain ⟨rfl, hl1⟩ := q1
    have hv1 := hv.rec o1 hl1
    have hX : srvF wf ns sl old tot run ms l2 = (-2, sl, old, tot, run, ms) := by rw [srvF, hu]
    refine T_if_eq (tgt := 23) (pc := 8) d_Server_receive_8 (by decide) (fun q8 => ?_) (fun q8 => ?_)
    · refine T_bipush (v := -2) (pc := 23) d_Server_receive_23 rfl ?_
      refine T_iret (pc := 25) d_Server_receive_25 rfl rfl (Nat.le_refl _) ?_
      unfold srvQ
      rw [hX]
      exact ⟨rfl, hv1, hn1, ⟨vs, hva1⟩, fun q z1 z2 => o1 q (by omega) (by omega)⟩
    · exact absurd rfl q8
  | some l =>
    rw [hu] at q1
    obtain ⟨rfl, hb1⟩ := q1
    have hv1 := hv.rec o1 ⟨l, hb1⟩
    have hle1 := hb1.le
    have hX0 : srvF wf ns sl old tot run ms l2 = if l.length < 12 then (-2, sl, old, tot, run, ms) else if wat l 4 ≠ 0 then (-3, sl, old, tot, run, ms) else srvG wf ns sl old tot run ms l := by rw [srvF, hu]
    refine T_if_eq (tgt := 23) (pc := 8) d_Server_receive_8 (by decide) (fun q8 => ?_) (fun q8 => ?_)
    · exact absurd q8 (by decide)
    · refine T_aload_n (pc := 11) d_Server_receive_11 rfl ?_
      refine T_get (pc := 12) d_Server_receive_12 sF_Server_14_Server hv1.obj rfl ?_
      refine T_get (pc := 15) d_Server_receive_15 sF_Server_68_Bytes hb1.obj rfl ?_
      refine T_bipush (v := 12) (pc := 18) d_Server_receive_18 rfl ?_
      refine T_icmp_ge (tgt := 26) (pc := 20) d_Server_receive_20 (by decide) (fun q20 => ?_) (fun q20 => ?_)
      · have hl12 : 12 ≤ l.length := (nI_leI (a := 12) (b := l.length) (by decide) (by omega)).mp q20
        rw [if_neg (by omega)] at hX0
        refine T_aload_n (pc := 26) d_Server_receive_26 rfl ?_
        refine T_get (pc := 27) d_Server_receive_27 sF_Server_14_Server hv1.obj rfl ?_
        refine T_iconst (v := 4) (pc := 30) d_Server_receive_30 rfl ?_
        refine T_ivV (pc := 31) d_Server_receive_31 sI_Server_71 (c_Bytes_wordAt (k := 4) hb1 (by decide) (by omega)) hb1.obj rfl rfl ⟨(Nat.le_of_ble_eq_true rfl), (Nat.le_of_ble_eq_true rfl)⟩ ⟨(Nat.le_of_ble_eq_true rfl), (Nat.le_of_ble_eq_true rfl)⟩ (Nat.le_of_ble_eq_true rfl) (fun r2 h2 q2 => ?_)
        obtain ⟨rfl, e2⟩ := q2
        rw [e2]
        refine T_if_eq (tgt := 40) (pc := 34) d_Server_receive_34 (by decide) (fun q34 => ?_) (fun q34 => ?_)
        · refine T_aload_n (pc := 40) d_Server_receive_40 rfl ?_
          refine T_get (pc := 41) d_Server_receive_41 sF_Server_14_Server hv1.obj rfl ?_
          refine T_iconst (v := 0) (pc := 44) d_Server_receive_44 rfl ?_
          have hX : srvF wf ns sl old tot run ms l2 = srvG wf ns sl old tot run ms l := by rw [hX0, if_neg (fun z => z q34)]
          refine T_ivV (pc := 45) d_Server_receive_45 sI_Server_71 (c_Bytes_wordAt (k := 0) hb1 (by decide) (by omega)) hb1.obj rfl rfl ⟨(Nat.le_of_ble_eq_true rfl), (Nat.le_of_ble_eq_true rfl)⟩ ⟨(Nat.le_of_ble_eq_true rfl), (Nat.le_of_ble_eq_true rfl)⟩ (Nat.le_of_ble_eq_true rfl) (fun r3 h3 q3 => ?_)
          obtain ⟨rfl, e3⟩ := q3
          rw [e3]
          refine T_istore_n (pc := 48) d_Server_receive_48 rfl (Nat.le_of_ble_eq_true rfl) rfl ?_
          refine T_iconst (v := 0) (pc := 49) d_Server_receive_49 rfl ?_
          refine T_istore_n (pc := 50) d_Server_receive_50 rfl (Nat.le_of_ble_eq_true rfl) rfl ?_
          have hL := c_Server_receive_loop (n := n) (a2 := a2) (wf := wf) hv1 hn1 hs1 hva1 hF1 d0 d1 d2 hb1 hl12 sl 0 (List.drop_zero) (Nat.zero_le _) rfl
          refine T_imp (fun r h' hq => ?_) hL
          obtain ⟨z1, z2, z3, z4, z5⟩ := hq
          rw [hX]
          exact ⟨z1, z2, z3, z4, fun q y1 y2 => (z5 q y1 y2).trans (o1 q (by omega) (by omega))⟩
        · have hX : srvF wf ns sl old tot run ms l2 = (-3, sl, old, tot, run, ms) := by rw [hX0, if_pos q34]
          refine T_bipush (v := -3) (pc := 37) d_Server_receive_37 rfl ?_
          refine T_iret (pc := 39) d_Server_receive_39 rfl rfl (Nat.le_refl _) ?_
          unfold srvQ
          rw [hX]
          exact ⟨rfl, hv1, hn1, ⟨vs, hva1⟩, fun q z1 z2 => o1 q (by omega) (by omega)⟩
      · have hl12 : l.length < 12 := by have := mt (nI_leI (a := 12) (b := l.length) (by decide) (by omega)).mpr q20; omega
        have hX : srvF wf ns sl old tot run ms l2 = (-2, sl, old, tot, run, ms) := by rw [hX0, if_pos hl12]
        refine T_bipush (v := -2) (pc := 23) d_Server_receive_23 rfl ?_
        refine T_iret (pc := 25) d_Server_receive_25 rfl rfl (Nat.le_refl _) ?_
        unfold srvQ
        rw [hX]
        exact ⟨rfl, hv1, hn1, ⟨vs, hva1⟩, fun q z1 z2 => o1 q (by omega) (by omega)⟩
