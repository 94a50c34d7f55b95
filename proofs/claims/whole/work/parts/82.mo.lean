/-! OnceWireModel as a whole: deliver and hand. -/
def Mo (h : aH) (m : Nat) (wf : Bool) (ns : List Sf) (vs : List (List Int32)) (db : List Int32) (ms : List Mg) (kl : List Kt) (tot run : Int32) (cs : List (Int32 × Int32)) (ps : List Pd) : Prop := ∃ (σ : Nat → Int32) (ν : Int64) (α : Nat → Nat → Int32) (svs : List (List Int32)) (sl : List Nat), Md h m σ ν α ∧ mSc σ α ns ∧ mVa α 0 ns vs ∧ mVa α 4 ns svs ∧ mDb σ α db ∧ mNe σ α ms ∧ mKn σ α kl ∧ mCl σ α cs ∧ mPd α cs ps sl ∧ σ 0 = bI wf ∧ σ 19 = tot ∧ σ 20 = run
theorem Mo.same {h h' : aH} {m : Nat} {wf : Bool} {ns : List Sf} {vs : List (List Int32)} {db : List Int32} {ms : List Mg} {kl : List Kt} {tot run : Int32} {cs : List (Int32 × Int32)} {ps : List Pd} (hO : Mo h m wf ns vs db ms kl tot run cs ps) (o : ∀ q, m ≤ q → q ≤ m + 20 → h' q = h q) : Mo h' m wf ns vs db ms kl tot run cs ps := by
  obtain ⟨σ, ν, α, svs, sl, hM, k⟩ := hO
  exact ⟨σ, ν, α, svs, sl, ⟨(o m (Nat.le_refl _) (by omega)).trans hM.1, fun j h1 h2 => (o _ (by omega) (by omega)).trans (hM.2 j h1 h2)⟩, k⟩
abbrev Rm : Type := Int32 × List Kt × Int32 × Int32 × List Mg × List (Int32 × Int32) × List Pd
def mrF (wf : Bool) (ns : List Sf) (ms : List Mg) (kl : List Kt) (tot run : Int32) (cs : List (Int32 × Int32)) (ps : List Pd) (b : Bool) (l : List Int32) : Rm := if b then ((msF wf ns kl tot run ms l).1, (msF wf ns kl tot run ms l).2.1, (msF wf ns kl tot run ms l).2.2.1, (msF wf ns kl tot run ms l).2.2.2.1, (msF wf ns kl tot run ms l).2.2.2.2, cs, ps) else ((cliF cs ps l).1, kl, tot, run, ms, (cliF cs ps l).2.1, (cliF cs ps l).2.2)
abbrev MoR (h : aH) (m : Nat) (wf : Bool) (ns : List Sf) (vs : List (List Int32)) (db : List Int32) (R : Rm) : Prop := Mo h m wf ns vs db R.2.2.2.2.1 R.2.1 R.2.2.1 R.2.2.2.1 R.2.2.2.2.2.1 R.2.2.2.2.2.2
def mdlF (wf : Bool) (ns : List Sf) (ms : List Mg) (kl : List Kt) (tot run : Int32) (cs : List (Int32 × Int32)) (ps : List Pd) (k : Int32) : Rm := if 0 ≤ k ∧ k < nI ms.length then mrF wf ns (ms.eraseIdx k.toNatClampNeg) kl tot run cs ps (ms.getD k.toNatClampNeg ([], false)).2 (ms.getD k.toNatClampNeg ([], false)).1 else (-1, kl, tot, run, ms, cs, ps)
theorem srQ.mo {h h' : aH} {m : Nat} {σ : Nat → Int32} {α : Nat → Nat → Int32} {r : Option Value} {wf : Bool} {ns : List Sf} {vs : List (List Int32)} {db : List Int32} {cs : List (Int32 × Int32)} {ps : List Pd} {sl : List Nat} {X : Sx} (q : srQ h m σ α ns X r h') (hs : mSc σ α ns) (hv : mVa α 0 ns vs) (hd : mDb σ α db) (hc : mCl σ α cs) (hp : mPd α cs ps sl) (ew : σ 0 = bI wf) : r = some (.int X.1) ∧ Mo h' m wf ns vs db X.2.2.2.2 X.2.1 X.2.2.1 X.2.2.2.1 cs ps ∧ mdO h h' m := by
  obtain ⟨σ', ν', α', M, ⟨O, s, a, x4, x5⟩, er, hk, e19, e20, hn, svs', hv'⟩ := q
  have e : ∀ j, j ∉ [4, 5, 6, 7, 8, 9, 10, 12, 13, 14] → α' j = α j := a
  exact ⟨er, ⟨σ', ν', α', svs', sl, M, hs.same (s 1 (by decide)) (e 1 (by decide)) (e 2 (by decide)) (e 3 (by decide)), hv.off hs.1 (fun q z1 z2 => x4 q (by omega)) (fun q z1 z2 => x5 q (by omega)), hv', hd.same (s 18 (by decide)) (e 11 (by decide)), hn, hk, hc.same (s 25 (by decide)) (e 15 (by decide)) (e 16 (by decide)), hp.same (e 17 (by decide)) (e 18 (by decide)) (e 19 (by decide)) (e 20 (by decide)), (s 0 (by decide)).trans ew, e19, e20⟩, O⟩
theorem in_of {k : Int32} {L : Nat} (hL : L < 2 ^ 31) (h : 0 ≤ k ∧ k < nI L) : ∃ i : Nat, i < L ∧ k = nI i := by
  obtain ⟨i, hi, e⟩ := nI_of (x := k) (Int32.not_lt.mpr h.1)
  refine ⟨i, ?_, e⟩
  rcases Nat.lt_or_ge i L with z | z
  · exact z
  · exact absurd h.2 (by rw [e]; exact nI_nlt z hi)
set_option maxRecDepth 100000 in
set_option maxHeartbeats 4000000 in
theorem c_Mo_deliver {n m : Nat} {h : aH} {wf : Bool} {ns : List Sf} {vs : List (List Int32)} {db : List Int32} {ms : List Mg} {kl : List Kt} {tot run : Int32} {cs : List (Int32 × Int32)} {ps : List Pd} {k : Int32} (hO : Mo h m wf ns vs db ms kl tot run cs ps) (hnn : nsN ns) (hby : ∀ g, g ∈ ms → byt g.1) : Con M_Md_deliver 5 0 0 n [.ref m, .int k] h (fun r h' => r = some (.int (mdlF wf ns ms kl tot run cs ps k).1) ∧ MoR h' m wf ns vs db (mdlF wf ns ms kl tot run cs ps k) ∧ mdO h h' m) := by
  obtain ⟨σ, ν, α, svs, sl, hM, hs, hv, hu, hd, hn, hk, hc, hp, ew, e19, e20⟩ := hO
  refine Con.of rfl (Nat.le_of_ble_eq_true rfl) ?_
  refine T_aload_n (pc := 0) d_Md_deliver_0 rfl ?_
  refine T_iload_n (pc := 1) d_Md_deliver_1 rfl ?_
  refine T_ivV (pc := 2) d_Md_deliver_2 sI_Md_122 (c_Md_isMessage (k := k) hM) hM.1 rfl rfl ⟨(Nat.le_of_ble_eq_true rfl), (Nat.le_of_ble_eq_true rfl)⟩ ⟨(Nat.le_of_ble_eq_true rfl), (Nat.le_of_ble_eq_true rfl)⟩ (Nat.le_of_ble_eq_true rfl) (fun r1 h1 q1 => ?_)
  obtain ⟨rfl, e1⟩ := q1
  rw [e1, hn.2.1]
  by_cases hkk : 0 ≤ k ∧ k < nI ms.length
  ·
    rw [if_pos hkk]
    obtain ⟨i, hi, rfl⟩ := in_of (by have := hn.1; omega) hkk
    obtain ⟨g, hg⟩ : ∃ g, ms[i]? = some g := ⟨_, List.getElem?_eq_getElem hi⟩
    have h16 := hn.1
    have eX : mdlF wf ns ms kl tot run cs ps (nI i) = mrF wf ns (ms.eraseIdx i) kl tot run cs ps g.2 g.1 := by
      unfold mdlF
      rw [if_pos hkk, nI_clamp (by omega), List.getD_eq_getElem?_getD, hg]
      rfl
    rw [eX]
    obtain ⟨g1, g2, g3, g4⟩ := hn.2.2 i g hg
    refine T_if_ne (tgt := 10) (pc := 5) d_Md_deliver_5 (by decide) (fun q5 => ?_) (fun q5 => absurd q5 (by decide))
    refine T_aload_n (pc := 10) d_Md_deliver_10 rfl ?_
    refine T_get (pc := 11) d_Md_deliver_11 sF_Md_38_Md hM.1 rfl ?_
    refine T_iload_n (pc := 14) d_Md_deliver_14 rfl ?_
    refine T_zald (N := 16) (pc := 15) d_Md_deliver_15 (hM.arr 10) (vp_in_nI (by omega) (by decide)) ?_
    refine T_top (show α 10 (nI i).toNatClampNeg = bI (!g.2) by rw [nI_clamp (by omega)]; exact g3) ?_
    refine T_istore_n (pc := 16) d_Md_deliver_16 rfl (Nat.le_of_ble_eq_true rfl) rfl ?_
    refine T_aload_n (pc := 17) d_Md_deliver_17 rfl ?_
    refine T_iload_n (pc := 18) d_Md_deliver_18 rfl ?_
    refine T_ivV (pc := 19) d_Md_deliver_19 sI_Md_126 (c_Md_load hM hn hg) hM.1 rfl rfl ⟨(Nat.le_of_ble_eq_true rfl), (Nat.le_of_ble_eq_true rfl)⟩ ⟨(Nat.le_of_ble_eq_true rfl), (Nat.le_of_ble_eq_true rfl)⟩ (Nat.le_of_ble_eq_true rfl) (fun r2 h2 q2 => ?_)
    obtain ⟨σ2, ν2, α2, M2, O2, rfl, e2, hm2, s2, a2⟩ := q2
    refine T_aload_n (pc := 22) d_Md_deliver_22 rfl ?_
    refine T_iload_n (pc := 23) d_Md_deliver_23 rfl ?_
    refine T_ivV (pc := 24) d_Md_deliver_24 sI_Md_213 (c_Md_lose (k := nI i) (ms := ms) M2 (hn.same (s2 13 (by decide)) (a2 8 (by decide)) (a2 9 (by decide)) (a2 10 (by decide)))) M2.1 rfl rfl ⟨(Nat.le_of_ble_eq_true rfl), (Nat.le_of_ble_eq_true rfl)⟩ ⟨(Nat.le_of_ble_eq_true rfl), (Nat.le_of_ble_eq_true rfl)⟩ (Nat.le_of_ble_eq_true rfl) (fun r3 h3 q3 => ?_)
    obtain ⟨σ3, ν3, α3, M3, O3, rfl, e3, hn3, s3, a3⟩ := q3
    rw [if_pos hkk, nI_clamp (by omega)] at hn3
    have S3 : sX [10, 13] σ σ3 := (s2.mono (by decide)).tr (s3.mono (by decide))
    have A3 : aX [7, 8, 9, 10] α α3 := (a2.mono (by decide)).tr (a3.mono (by decide))
    have hm3 : mMe σ3 α3 g.1 := hm2.same (s3 10 (by decide)) (a3 7 (by decide))
    have hs3 : mSc σ3 α3 ns := hs.same (S3 1 (by decide)) (A3 1 (by decide)) (A3 2 (by decide)) (A3 3 (by decide))
    have hv3 : mVa α3 0 ns vs := hv.same (A3 4 (by decide)) (A3 5 (by decide))
    have hu3 : mVa α3 4 ns svs := hu.same (A3 4 (by decide)) (A3 5 (by decide))
    have hd3 : mDb σ3 α3 db := hd.same (S3 18 (by decide)) (A3 11 (by decide))
    have hk3 : mKn σ3 α3 kl := hk.same (S3 21 (by decide)) (A3 12 (by decide)) (A3 13 (by decide)) (A3 14 (by decide))
    have hc3 : mCl σ3 α3 cs := hc.same (S3 25 (by decide)) (A3 15 (by decide)) (A3 16 (by decide))
    have hp3 : mPd α3 cs ps sl := hp.same (A3 17 (by decide)) (A3 18 (by decide)) (A3 19 (by decide)) (A3 20 (by decide))
    have ew3 : σ3 0 = bI wf := (S3 0 (by decide)).trans ew
    have e193 : σ3 19 = tot := (S3 19 (by decide)).trans e19
    have e203 : σ3 20 = run := (S3 20 (by decide)).trans e20
    have hby3 : byt g.1 := hby g (List.mem_of_getElem? hg)
    refine T_pop (pc := 27) d_Md_deliver_27 rfl ?_
    cases hb : g.2 with
    | true =>
      refine T_iload_n (pc := 28) d_Md_deliver_28 rfl ?_
      refine T_if_eq (tgt := 39) (pc := 29) d_Md_deliver_29 (by decide) (fun q29 => ?_) (fun q29 => absurd q29 (by decide))
      refine T_aload_n (pc := 39) d_Md_deliver_39 rfl ?_
      refine T_ivV (pc := 40) d_Md_deliver_40 sI_Md_219 (c_Md_serve (wf := wf) M3 hk3 hn3 hs3 hu3 hm3 hby3 ew3 hnn) M3.1 rfl rfl ⟨(Nat.le_of_ble_eq_true rfl), (Nat.le_of_ble_eq_true rfl)⟩ ⟨(Nat.le_of_ble_eq_true rfl), (Nat.le_of_ble_eq_true rfl)⟩ (Nat.le_of_ble_eq_true rfl) (fun r4 h4 q4 => ?_)
      obtain ⟨rfl, q5, q6⟩ := q4.mo hs3 hv3 hd3 hc3 hp3 ew3
      rw [e193, e203] at q5
      rw [e193, e203]
      refine T_iret (pc := 43) d_Md_deliver_43 rfl rfl (Nat.le_refl _) ?_
      exact ⟨rfl, q5, (mdO.tr (mdO.tr mdO.rf O2) O3).tr q6⟩
    | false =>
      refine T_iload_n (pc := 28) d_Md_deliver_28 rfl ?_
      refine T_if_eq (tgt := 39) (pc := 29) d_Md_deliver_29 (by decide) (fun q29 => absurd q29 (by decide)) (fun q29 => ?_)
      refine T_aload_n (pc := 32) d_Md_deliver_32 rfl ?_
      refine T_ivV (pc := 33) d_Md_deliver_33 sI_Md_216 (c_Md_accept M3 hc3 hp3 hm3 hby3) M3.1 rfl rfl ⟨(Nat.le_of_ble_eq_true rfl), (Nat.le_of_ble_eq_true rfl)⟩ ⟨(Nat.le_of_ble_eq_true rfl), (Nat.le_of_ble_eq_true rfl)⟩ (Nat.le_of_ble_eq_true rfl) (fun r4 h4 q4 => ?_)
      obtain ⟨σ4, ν4, α4, M4, O4, rfl, hc4, ⟨sl4, hp4⟩, s4, a4⟩ := q4
      refine T_goto (tgt := 43) (pc := 36) d_Md_deliver_36 (by decide) ?_
      refine T_iret (pc := 43) d_Md_deliver_43 rfl rfl (Nat.le_refl _) ?_
      exact ⟨rfl, ⟨σ4, ν4, α4, svs, sl4, M4, hs3.same (s4 1 (by decide)) (a4 1 (by decide)) (a4 2 (by decide)) (a4 3 (by decide)), hv3.same (a4 4 (by decide)) (a4 5 (by decide)), hu3.same (a4 4 (by decide)) (a4 5 (by decide)), hd3.same (s4 18 (by decide)) (a4 11 (by decide)), hn3.same (s4 13 (by decide)) (a4 8 (by decide)) (a4 9 (by decide)) (a4 10 (by decide)), hk3.same (s4 21 (by decide)) (a4 12 (by decide)) (a4 13 (by decide)) (a4 14 (by decide)), hc4, hp4, (s4 0 (by decide)).trans ew3, (s4 19 (by decide)).trans e193, (s4 20 (by decide)).trans e203⟩, (mdO.tr (mdO.tr mdO.rf O2) O3).tr O4⟩
  · skip
    rw [if_neg hkk]
    have eX : mdlF wf ns ms kl tot run cs ps k = (-1, kl, tot, run, ms, cs, ps) := if_neg hkk
    rw [eX]
    refine T_if_ne (tgt := 10) (pc := 5) d_Md_deliver_5 (by decide) (fun q5 => absurd q5 (by decide)) (fun q5 => ?_)
    refine T_iconst (v := -1) (pc := 8) d_Md_deliver_8 rfl ?_
    refine T_iret (pc := 9) d_Md_deliver_9 rfl rfl (Nat.le_refl _) ?_
    exact ⟨rfl, ⟨σ, ν, α, svs, sl, hM, hs, hv, hu, hd, hn, hk, hc, hp, ew, e19, e20⟩, mdO.rf⟩
set_option maxRecDepth 100000 in
set_option maxHeartbeats 4000000 in
theorem c_Mo_hand {n m : Nat} {h : aH} {wf : Bool} {ns : List Sf} {vs : List (List Int32)} {db : List Int32} {ms : List Mg} {kl : List Kt} {tot run : Int32} {cs : List (Int32 × Int32)} {ps : List Pd} {b : Bool} (hO : Mo h m wf ns vs db ms kl tot run cs ps) (hnn : nsN ns) (hby : byt db) : Con M_Md_hand 5 0 0 n [.ref m, .int (bI b)] h (fun r h' => r = some (.int (mrF wf ns ms kl tot run cs ps b db).1) ∧ MoR h' m wf ns vs [] (mrF wf ns ms kl tot run cs ps b db) ∧ mdO h h' m) := by
  obtain ⟨σ, ν, α, svs, sl, hM, hs, hv, hu, hd, hn, hk, hc, hp, ew, e19, e20⟩ := hO
  refine Con.of rfl (Nat.le_of_ble_eq_true rfl) ?_
  refine T_iconst (v := 0) (pc := 0) d_Md_hand_0 rfl ?_
  refine T_istore_n (pc := 1) d_Md_hand_1 rfl (Nat.le_of_ble_eq_true rfl) rfl ?_
  have hl200 := hd.1
  refine c_Md_hand_cp (l := db) hd.2.1 (by omega) (by omega) db 0 h α List.drop_zero (Nat.zero_le _) hM hd.2.2 Rw.nil (fun h1 α1 M1 O1 a1 r1 _ => ?_)
  refine T_aload_n (pc := 28) d_Md_hand_28 rfl ?_
  refine T_aload_n (pc := 29) d_Md_hand_29 rfl ?_
  refine T_get (pc := 30) d_Md_hand_30 sF_Md_222_Md M1.1 rfl ?_
  refine T_put (pc := 33) d_Md_hand_33 sF_Md_116_Md M1.1 (Nat.le_of_ble_eq_true rfl) (a_fit_i _) (T_up (fun h33x1 g33x1 o33x1 => ?_))
  have M33x1 := M1.put 10 _ g33x1 o33x1 rfl
  have O33x1 := mdO.o (j := 0) O1 o33x1 (by decide)
  refine T_aload_n (pc := 36) d_Md_hand_36 rfl ?_
  refine T_iconst (v := 0) (pc := 37) d_Md_hand_37 rfl ?_
  refine T_put (pc := 38) d_Md_hand_38 sF_Md_222_Md M33x1.1 (Nat.le_of_ble_eq_true rfl) (a_fit_i _) (T_up (fun h38x2 g38x2 o38x2 => ?_))
  have M38x2 := M33x1.put 18 _ g38x2 o38x2 rfl
  have O38x2 := mdO.o (j := 0) O33x1 o38x2 (by decide)
  obtain ⟨σ3, M3, E3⟩ : ∃ σ3, Md _ m σ3 ν α1 ∧ σ3 = upd (upd σ 10 (σ 18)) 18 0 := ⟨_, M38x2, rfl⟩
  have S3 : sX [10, 18] σ σ3 := by rw [E3]; exact (sX.rf.up (by decide)).up (by decide)
  have hm3 : mMe σ3 α1 db := ⟨by omega, by rw [E3, pk_un (by decide), pk_us]; exact hd.2.1, r1⟩
  have hs3 : mSc σ3 α1 ns := hs.same (S3 1 (by decide)) (a1 1 (by decide)) (a1 2 (by decide)) (a1 3 (by decide))
  have hv3 : mVa α1 0 ns vs := hv.same (a1 4 (by decide)) (a1 5 (by decide))
  have hu3 : mVa α1 4 ns svs := hu.same (a1 4 (by decide)) (a1 5 (by decide))
  have hd3 : mDb σ3 α1 [] := ⟨by simp, by rw [E3, pk_us]; rfl, Rw.nil⟩
  have hn3 : mNe σ3 α1 ms := hn.same (S3 13 (by decide)) (a1 8 (by decide)) (a1 9 (by decide)) (a1 10 (by decide))
  have hk3 : mKn σ3 α1 kl := hk.same (S3 21 (by decide)) (a1 12 (by decide)) (a1 13 (by decide)) (a1 14 (by decide))
  have hc3 : mCl σ3 α1 cs := hc.same (S3 25 (by decide)) (a1 15 (by decide)) (a1 16 (by decide))
  have hp3 : mPd α1 cs ps sl := hp.same (a1 17 (by decide)) (a1 18 (by decide)) (a1 19 (by decide)) (a1 20 (by decide))
  have ew3 : σ3 0 = bI wf := (S3 0 (by decide)).trans ew
  have e193 : σ3 19 = tot := (S3 19 (by decide)).trans e19
  have e203 : σ3 20 = run := (S3 20 (by decide)).trans e20
  have hby3 : byt db := hby
  cases b with
  | true =>
    refine T_iload_n (pc := 41) d_Md_hand_41 rfl ?_
    refine T_if_eq (tgt := 52) (pc := 42) d_Md_hand_42 (by decide) (fun q42 => absurd q42 (by decide)) (fun q42 => ?_)
    refine T_aload_n (pc := 45) d_Md_hand_45 rfl ?_
    refine T_ivV (pc := 46) d_Md_hand_46 sI_Md_219 (c_Md_serve (wf := wf) M3 hk3 hn3 hs3 hu3 hm3 hby3 ew3 hnn) M3.1 rfl rfl ⟨(Nat.le_of_ble_eq_true rfl), (Nat.le_of_ble_eq_true rfl)⟩ ⟨(Nat.le_of_ble_eq_true rfl), (Nat.le_of_ble_eq_true rfl)⟩ (Nat.le_of_ble_eq_true rfl) (fun r4 h4 q4 => ?_)
    obtain ⟨rfl, q5, q6⟩ := q4.mo hs3 hv3 hd3 hc3 hp3 ew3
    rw [e193, e203] at q5
    rw [e193, e203]
    refine T_goto (tgt := 56) (pc := 49) d_Md_hand_49 (by decide) ?_
    refine T_iret (pc := 56) d_Md_hand_56 rfl rfl (Nat.le_refl _) ?_
    exact ⟨rfl, q5, O38x2.tr q6⟩
  | false =>
    refine T_iload_n (pc := 41) d_Md_hand_41 rfl ?_
    refine T_if_eq (tgt := 52) (pc := 42) d_Md_hand_42 (by decide) (fun q42 => ?_) (fun q42 => absurd q42 (by decide))
    refine T_aload_n (pc := 52) d_Md_hand_52 rfl ?_
    refine T_ivV (pc := 53) d_Md_hand_53 sI_Md_216 (c_Md_accept M3 hc3 hp3 hm3 hby3) M3.1 rfl rfl ⟨(Nat.le_of_ble_eq_true rfl), (Nat.le_of_ble_eq_true rfl)⟩ ⟨(Nat.le_of_ble_eq_true rfl), (Nat.le_of_ble_eq_true rfl)⟩ (Nat.le_of_ble_eq_true rfl) (fun r4 h4 q4 => ?_)
    obtain ⟨σ4, ν4, α4, M4, O4, rfl, hc4, ⟨sl4, hp4⟩, s4, a4⟩ := q4
    refine T_iret (pc := 56) d_Md_hand_56 rfl rfl (Nat.le_refl _) ?_
    exact ⟨rfl, ⟨σ4, ν4, α4, svs, sl4, M4, hs3.same (s4 1 (by decide)) (a4 1 (by decide)) (a4 2 (by decide)) (a4 3 (by decide)), hv3.same (a4 4 (by decide)) (a4 5 (by decide)), hu3.same (a4 4 (by decide)) (a4 5 (by decide)), hd3.same (s4 18 (by decide)) (a4 11 (by decide)), hn3.same (s4 13 (by decide)) (a4 8 (by decide)) (a4 9 (by decide)) (a4 10 (by decide)), hk3.same (s4 21 (by decide)) (a4 12 (by decide)) (a4 13 (by decide)) (a4 14 (by decide)), hc4, hp4, (s4 0 (by decide)).trans ew3, (s4 19 (by decide)).trans e193, (s4 20 (by decide)).trans e203⟩, O38x2.tr O4⟩
