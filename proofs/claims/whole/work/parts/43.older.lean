/-! OnceWire$Client.growOlder. -/
theorem Cl.age {h : aH} {c w fm : Nat} {cs : List (Int32 × Int32)} {ps : List Pd} {ads : List Nat} (hv : Cl h c w fm cs ps ads) {i : Nat} {m : Pd} (hm : ps[i]? = some m) : ∃ ga : Nat → Int32, h (c + 6) = some (.inl (.int, 8, .inl ga)) ∧ ga i = m.2.1 ∧ ∀ (x : Int32) (h' : aH), h' (c + 6) = some (.inl (.int, 8, .inl (upd ga i x))) → (∀ q, q ≠ c + 6 → h' q = h q) → Cl h' c w fm cs (ps.set i (m.1, x, m.2.2)) ads := by
  obtain ⟨⟨a1, a2, a3, a4, a5⟩, ⟨gs, gr, gx, ga, b1, b2, b3, b4, b5, b6, b7, b8, b9⟩, c1, c2, ⟨l, c3⟩⟩ := hv
  have hi := (List.getElem?_eq_some_iff.mp hm).1
  refine ⟨ga, b5, (b9 i m hm).2, fun x h' hg o => ⟨⟨a1, by simp; exact a2, a3, a4, a5⟩, ⟨gs, gr, gx, _, by rw [o c (by omega), b1, List.length_set], (o _ (by omega)).trans b2, (o _ (by omega)).trans b3, (o _ (by omega)).trans b4, hg, (o _ (by omega)).trans b6, b7, b8, fun i' m' hm' => ?_⟩, fun q hq => ?_, fun i' m' q hm' hq => ?_, ⟨l, c3.same (o _ (by omega)) (o _ (by omega))⟩⟩⟩
  · by_cases hii : i' = i
    · subst hii
      rw [List.getElem?_set_self hi] at hm'
      cases hm'
      exact ⟨(b9 i' m hm).1, pk_us⟩
    · rw [List.getElem?_set_ne (Ne.symm hii)] at hm'
      rw [pk_un hii]
      exact b9 i' m' hm'
  · obtain ⟨l', hl'⟩ := c1 q hq
    have := a5 q hq
    exact ⟨l', hl'.same (o _ (by omega)) (o _ (by omega))⟩
  · have := a5 q (List.mem_of_getElem? hq)
    by_cases hii : i' = i
    · subst hii
      rw [List.getElem?_set_self hi] at hm'
      cases hm'
      exact (c2 i' m q hm hq).same (o _ (by omega)) (o _ (by omega))
    · rw [List.getElem?_set_ne (Ne.symm hii)] at hm'
      exact (c2 i' m' q hm' hq).same (o _ (by omega)) (o _ (by omega))
def goF : List Pd → List Mg → Int32 → List Pd × List Mg × Int32
  | [], ms, k => ([], ms, k)
  | m :: t, ms, k => if 3 ≤ m.2.1 + 1 then ((m.1, 0, m.2.2) :: (goF t (psh ms (m.2.2, true)) (k + 1)).1, (goF t (psh ms (m.2.2, true)) (k + 1)).2) else ((m.1, m.2.1 + 1, m.2.2) :: (goF t ms k).1, (goF t ms k).2)
set_option maxRecDepth 100000 in
set_option maxHeartbeats 4000000 in
theorem c_Client_growOlder_loop {n c w fm : Nat} {cs : List (Int32 × Int32)} {ads wads : List Nat} {h0 : aH} {Q : aQ} (d1 : w + 36 < c) : ∀ (ts dn : List Pd) (i : Nat) (k : Int32) (ms : List Mg) (h : aH), dn.length = i → Cl h c w fm cs (dn ++ ts) ads → Nw h w wads ms → (∀ q, q < w ∨ w + 36 < q → q < c ∨ c + 23 < q → h q = h0 q) → (∀ h', Cl h' c w fm cs (dn ++ (goF ts ms k).1) ads → Nw h' w wads (goF ts ms k).2.1 → (∀ q, q < w ∨ w + 36 < q → q < c ∨ c + 23 < q → h' q = h0 q) → Q (some (.int (goF ts ms k).2.2)) h') → Tri M_Client_growOlder (a_rm 3 0 0) (a_Z 0 0 Q) 4 [(2, .int (nI i)), (1, .int k), (0, .ref c)] [] n h 0 0 := by
  intro ts
  induction ts with
  | nil =>
    intro dn i k ms h hdn hv hn hO hQ
    have hp8 := hv.1.2.1
    have hl : (dn ++ ([] : List Pd)).length = i := by simp [hdn]
    refine T_iload_n (pc := 4) d_Client_growOlder_4 rfl ?_
    refine T_aload_n (pc := 5) d_Client_growOlder_5 rfl ?_
    refine T_get (pc := 6) d_Client_growOlder_6 sF_Client_41_Client hv.obj rfl ?_
    refine T_icmp_ge (tgt := 62) (pc := 9) d_Client_growOlder_9 (by decide) (fun q9 => ?_) (fun q9 => ?_)
    · refine T_iload_n (pc := 62) d_Client_growOlder_62 rfl ?_
      refine T_iret (pc := 63) d_Client_growOlder_63 rfl rfl (Nat.le_refl _) ?_
      exact hQ h hv hn hO
    · exact absurd (nI_le (by omega) (by omega)) q9
  | cons m ts ih =>
    intro dn i k ms h hdn hv hn hO hQ
    have hp8 := hv.1.2.1
    have hal := hv.1.2.2.1
    have hl : (dn ++ m :: ts).length = i + 1 + ts.length := by simp [hdn]; omega
    have hm : (dn ++ m :: ts)[i]? = some m := by rw [← hdn]; exact get_mid dn ts m
    obtain ⟨ga, hGa, hgm, hput⟩ := hv.age hm
    obtain ⟨q0, hq0⟩ : ∃ q0, ads[i]? = some q0 := ⟨_, List.getElem?_eq_getElem (by omega)⟩
    have hA : h (c + 7) = some (.inl (a_tB, 8, .inr (fun j => ads[j]?))) := by
      obtain ⟨_, ⟨_, _, _, _, _, _, _, _, _, q, _⟩, _⟩ := hv
      exact q
    have hadr := hv.1.2.2.2.2 q0 (List.mem_of_getElem? hq0)
    have hrow := hv.2.2.2.1 i m q0 hm hq0
    refine T_iload_n (pc := 4) d_Client_growOlder_4 rfl ?_
    refine T_aload_n (pc := 5) d_Client_growOlder_5 rfl ?_
    refine T_get (pc := 6) d_Client_growOlder_6 sF_Client_41_Client hv.obj rfl ?_
    refine T_icmp_ge (tgt := 62) (pc := 9) d_Client_growOlder_9 (by decide) (fun q9 => ?_) (fun q9 => ?_)
    · exact absurd q9 (nI_ge (by omega) (by omega))
    · refine T_aload_n (pc := 12) d_Client_growOlder_12 rfl ?_
      refine T_get (pc := 13) d_Client_growOlder_13 sF_Client_34_Client hv.obj rfl ?_
      refine T_iload_n (pc := 16) d_Client_growOlder_16 rfl ?_
      refine T_dup2 (pc := 17) d_Client_growOlder_17 rfl rfl ?_
      refine T_iald (pc := 18) d_Client_growOlder_18 hGa (vp_in_nI (by omega) (by decide)) ?_
      refine T_iconst (v := 1) (pc := 19) d_Client_growOlder_19 rfl ?_
      refine T_iadd (pc := 20) d_Client_growOlder_20 ?_
      refine T_iast (pc := 21) d_Client_growOlder_21 (Nat.succ_ne_zero _) hGa (vp_in_nI (by omega) (by decide)) (T_up (fun h21x1 g21x1 o21x1 => ?_))
      have hv.obj_21x1 := (o21x1 c (by omega)).trans hv.obj
      have hA_21x1 := (o21x1 (c + 7) (by omega)).trans hA
      have g1 := g21x1
      rw [nI_clamp (by omega), hgm] at g1
      have hv1 := hput _ _ g1 o21x1
      rw [← hdn, set_mid] at hv1
      have hn1 := hn.same (h' := h21x1) (fun q z1 z2 => o21x1 q (by omega))
      refine T_aload_n (pc := 22) d_Client_growOlder_22 rfl ?_
      refine T_get (pc := 23) d_Client_growOlder_23 sF_Client_34_Client hv.obj_21x1 rfl ?_
      refine T_iload_n (pc := 26) d_Client_growOlder_26 rfl ?_
      refine T_iald (pc := 27) d_Client_growOlder_27 g1 (vp_in_nI (by omega) (by decide)) (T_top (show upd ga i (m.2.1 + 1) (nI i).toNatClampNeg = m.2.1 + 1 by rw [nI_clamp (by omega), pk_us]) ?_)
      refine T_iconst (v := 3) (pc := 28) d_Client_growOlder_28 rfl ?_
      refine T_icmp_lt (tgt := 56) (pc := 29) d_Client_growOlder_29 (by decide) (fun q29 => ?_) (fun q29 => ?_)
      · refine T_iinc (pc := 56) d_Client_growOlder_56 rfl (nI_1 i) (Nat.le_of_ble_eq_true rfl) rfl ?_
        refine T_goto (tgt := 4) (pc := 59) d_Client_growOlder_59 (by decide) ?_
        have hgo : goF (m :: ts) ms k = ((m.1, m.2.1 + 1, m.2.2) :: (goF ts ms k).1, (goF ts ms k).2) := by rw [goF, if_neg (Int32.not_le.mpr q29)]
        rw [hgo] at hQ
        exact ih (dn ++ [(m.1, m.2.1 + 1, m.2.2)]) (i + 1) k ms _ (by simp [hdn]) hv1 hn1 (fun q z1 z2 => (o21x1 q (by omega)).trans (hO q z1 z2)) (fun h' k1 k2 k3 => hQ h' (by rw [List.append_assoc] at k1; exact k1) k2 k3)
      · refine T_aload_n (pc := 32) d_Client_growOlder_32 rfl ?_
        refine T_get (pc := 33) d_Client_growOlder_33 sF_Client_44_Client hv.obj_21x1 rfl ?_
        refine T_aload_n (pc := 36) d_Client_growOlder_36 rfl ?_
        refine T_get (pc := 37) d_Client_growOlder_37 sF_Client_37_Client hv.obj_21x1 rfl ?_
        refine T_iload_n (pc := 40) d_Client_growOlder_40 rfl ?_
        refine T_aald (pc := 41) d_Client_growOlder_41 hA_21x1 (vp_in_nI (by omega) (by decide)) (by rw [nI_clamp (by omega)]; exact hq0) ?_
        refine T_iconst (v := 1) (pc := 42) d_Client_growOlder_42 rfl ?_
        have hg : 3 ≤ m.2.1 + 1 := Int32.not_lt.mp q29
        have hgo : goF (m :: ts) ms k = ((m.1, 0, m.2.2) :: (goF ts (psh ms (m.2.2, true)) (k + 1)).1, (goF ts (psh ms (m.2.2, true)) (k + 1)).2) := by rw [goF, if_pos hg]
        rw [hgo] at hQ
        have hrow1 := hrow.same (o21x1 q0 (by omega)) (o21x1 (q0 + 1) (by omega))
        have hrl := hrow.le
        refine T_ivV (pc := 43) d_Client_growOlder_43 sI_Client_70 (c_Network_send (b := true) hn1 hrow1 (by decide) hrl (fun _ q9 hq9 e => by have := hn.1.2.2.1 q9 (List.mem_of_getElem? hq9); omega)) hn1.obj rfl rfl ⟨(Nat.le_of_ble_eq_true rfl), (Nat.le_of_ble_eq_true rfl)⟩ ⟨(Nat.le_of_ble_eq_true rfl), (Nat.le_of_ble_eq_true rfl)⟩ (Nat.le_of_ble_eq_true rfl) (fun r2 h2 q2 => ?_)
        have hn2 : Nw h2 w wads (psh ms (m.2.2, true)) ∧ r2 = none ∧ ∀ q, q < w ∨ w + 36 < q → h2 q = h21x1 q := by
          unfold psh
          split at q2
          · rename_i hlt
            rw [if_pos hlt]
            exact ⟨q2.2.1, q2.1, q2.2.2⟩
          · rename_i hlt
            rw [if_neg hlt, q2.2]
            exact ⟨hn1, q2.1, fun _ _ => rfl⟩
        obtain ⟨hn2, rfl, o2⟩ := hn2
        have hv2 := hv1.same (h' := h2) (fun q z1 z2 => o2 q (by omega))
        have hm2 : ((dn ++ [(m.1, m.2.1 + 1, m.2.2)]) ++ ts)[i]? = some (m.1, m.2.1 + 1, m.2.2) := by
          rw [List.append_assoc, ← hdn]
          exact get_mid dn ts _
        obtain ⟨ga2, hGa2, _, hput2⟩ := hv2.age hm2
        have hv_2 := (o2 c (by omega)).trans hv.obj_21x1
        have g1_2 := (o2 (c + 6) (by omega)).trans g1
        have hA_2 := (o2 (c + 7) (by omega)).trans hA_21x1
        refine T_aload_n (pc := 46) d_Client_growOlder_46 rfl ?_
        refine T_get (pc := 47) d_Client_growOlder_47 sF_Client_34_Client hv_2 rfl ?_
        refine T_iload_n (pc := 50) d_Client_growOlder_50 rfl ?_
        refine T_iconst (v := 0) (pc := 51) d_Client_growOlder_51 rfl ?_
        refine T_iast (pc := 52) d_Client_growOlder_52 (Nat.succ_ne_zero _) hGa2 (vp_in_nI (by omega) (by decide)) (T_up (fun h52x2 g52x2 o52x2 => ?_))
        have hv_52x2 := (o52x2 c (by omega)).trans hv_2
        have hA_52x2 := (o52x2 (c + 7) (by omega)).trans hA_2
        refine T_iinc (pc := 53) d_Client_growOlder_53 rfl rfl (Nat.le_of_ble_eq_true rfl) rfl ?_
        refine T_iinc (pc := 56) d_Client_growOlder_56 rfl (nI_1 i) (Nat.le_of_ble_eq_true rfl) rfl ?_
        refine T_goto (tgt := 4) (pc := 59) d_Client_growOlder_59 (by decide) ?_
        have g3 := g52x2
        rw [nI_clamp (by omega)] at g3
        have hv3 := hput2 0 _ g3 o52x2
        have e3 : ((dn ++ [(m.1, m.2.1 + 1, m.2.2)]) ++ ts).set i (m.1, 0, m.2.2) = (dn ++ [(m.1, 0, m.2.2)]) ++ ts := by
          rw [List.append_assoc, ← hdn]
          exact set_mid dn ts _ _
        have hv3 : Cl h52x2 c w fm cs ((dn ++ [(m.1, 0, m.2.2)]) ++ ts) ads := by rw [← e3]; exact hv3
        exact ih (dn ++ [(m.1, 0, m.2.2)]) (i + 1) (k + 1) _ _ (by simp [hdn]) hv3 (hn2.same (fun q z1 z2 => o52x2 q (by omega))) (fun q z1 z2 => (o52x2 q (by omega)).trans ((o2 q z1).trans ((o21x1 q (by omega)).trans (hO q z1 z2)))) (fun h' k1 k2 k3 => hQ h' (by rw [List.append_assoc] at k1; exact k1) k2 k3)
set_option maxRecDepth 100000 in
set_option maxHeartbeats 4000000 in
theorem c_Client_growOlder {n c w fm : Nat} {cs : List (Int32 × Int32)} {ps : List Pd} {ads wads : List Nat} {ms : List Mg} {h : aH} (hv : Cl h c w fm cs ps ads) (hn : Nw h w wads ms) (d1 : w + 36 < c) : Con M_Client_growOlder 3 0 0 n [.ref c] h (fun r h' => r = some (.int (goF ps ms 0).2.2) ∧ Cl h' c w fm cs (goF ps ms 0).1 ads ∧ Nw h' w wads (goF ps ms 0).2.1 ∧ ∀ q, q < w ∨ w + 36 < q → q < c ∨ c + 23 < q → h' q = h q) := by
  refine Con.of rfl (Nat.le_of_ble_eq_true rfl) ?_
  refine T_iconst (v := 0) (pc := 0) d_Client_growOlder_0 rfl ?_
  refine T_istore_n (pc := 1) d_Client_growOlder_1 rfl (Nat.le_of_ble_eq_true rfl) rfl ?_
  refine T_iconst (v := 0) (pc := 2) d_Client_growOlder_2 rfl ?_
  refine T_istore_n (pc := 3) d_Client_growOlder_3 rfl (Nat.le_of_ble_eq_true rfl) rfl ?_
  exact c_Client_growOlder_loop d1 ps [] 0 0 ms h rfl hv hn (fun _ _ _ => rfl) (fun h' k1 k2 k3 => ⟨rfl, k1, k2, k3⟩)
