/-! OnceWireModel.tick. -/
theorem mPd.uni {α : Nat → Nat → Int32} {cs : List (Int32 × Int32)} {ps : List Pd} {sl : List Nat} (h : mPd α cs ps sl) (h100 : cs.length ≤ 100) {i k : Nat} {g g' : Pd} (hg : ps[k]? = some g) (hg' : ps[i]? = some g') (e : g'.1 = g.1) : i = k := by
  obtain ⟨j1, c1', hj1, hp1, e1', _⟩ := h.at h100 hg'
  obtain ⟨j2, c2', hj2, hp2, e2', _⟩ := h.at h100 hg
  have : j1 = j2 := (nI_eq (by omega) (by omega)).mp (by rw [← e1', ← e2', e])
  subst this
  by_cases z : i = k
  · exact z
  · exact absurd rfl (nodup_ne (pnd_nd cs 0) hp1 hp2 z)
theorem mPd.slot {α : Nat → Nat → Int32} {cs : List (Int32 × Int32)} {ps : List Pd} {sl : List Nat} (h : mPd α cs ps sl) (h100 : cs.length ≤ 100) {k : Nat} {g : Pd} (hg : ps[k]? = some g) (s : Nat) (hs : s ≤ 8) (hb : ∀ j, j < s → α 20 j ≠ g.1) (he : s < 8 → α 20 s = g.1) : s < 8 ∧ α 19 s = nI g.2.2.length ∧ Rw (α 18) (160 * s) g.2.2 := by
  obtain ⟨a1, ⟨b1, b2, b3⟩, c1, d1⟩ := id h
  have hk : k < ps.length := (List.getElem?_eq_some_iff.mp hg).1
  obtain ⟨s0, hs0⟩ : ∃ s, sl[k]? = some s := ⟨_, List.getElem?_eq_getElem (by omega)⟩
  have h0 := d1 k g s0 hg hs0
  have h8 := b3 s0 (List.mem_of_getElem? hs0)
  have hle : s ≤ s0 := by
    rcases Nat.lt_or_ge s0 s with z | z
    · exact absurd h0.1 (hb s0 z)
    · exact z
  have hs8 : s < 8 := by omega
  have hz := he hs8
  obtain ⟨j, c, hj, _, e, _⟩ := h.at h100 hg
  have hm : s ∈ sl := by
    by_cases z : s ∈ sl
    · exact z
    · have := c1 s hs8 z
      rw [hz, e] at this
      exact absurd (show nI j < 0 by rw [this]; decide) (nI_pos (by omega))
  obtain ⟨i, hi⟩ := List.mem_iff_getElem?.mp hm
  have hil := (List.getElem?_eq_some_iff.mp hi).1
  obtain ⟨g', hg'⟩ : ∃ g', ps[i]? = some g' := ⟨_, List.getElem?_eq_getElem (by omega)⟩
  have h1 := d1 i g' s hg' hi
  have : i = k := h.uni h100 hg hg' (h1.1.symm.trans hz)
  subst this
  rw [hs0] at hi
  cases hi
  exact ⟨hs8, h0.2.1, h0.2.2.2.1⟩
theorem mPd.age {α α' : Nat → Nat → Int32} {cs : List (Int32 × Int32)} {dn ts : List Pd} {sl : List Nat} {g : Pd} {i a : Nat} (h : mPd α cs (dn ++ g :: ts) sl) (h100 : cs.length ≤ 100) (ei : g.1 = nI i) (hi : i < cs.length) (ha : a ≤ 2) (e17 : α' 17 = upd (α 17) i (nI a)) (e18 : α' 18 = α 18) (e19 : α' 19 = α 19) (e20 : α' 20 = α 20) : mPd α' cs ((dn ++ [(g.1, nI a, g.2.2)]) ++ ts) sl := by
  obtain ⟨a1, ⟨b1, b2, b3⟩, c1, d1⟩ := id h
  have hg : (dn ++ g :: ts)[dn.length]? = some g := by rw [List.getElem?_append_right (Nat.le_refl _), Nat.sub_self]; rfl
  refine ⟨?_, ⟨by rw [b1]; simp, b2, b3⟩, fun s hs hs2 => by rw [e20]; exact c1 s hs hs2, fun k g' s hg' hs => ?_⟩
  · rw [← a1]
    simp
  · rw [List.append_assoc] at hg'
    by_cases e : k = dn.length
    · subst e
      rw [List.getElem?_append_right (Nat.le_refl _), Nat.sub_self] at hg'
      have hg2 : (g.1, nI a, g.2.2) = g' := by simpa using hg'
      subst hg2
      obtain ⟨z1, z2, z3, z4, z5, z6⟩ := d1 _ g s hg hs
      refine ⟨by rw [e20]; exact z1, by rw [e19]; exact z2, z3, by rw [e18]; exact z4, ⟨a, ha, rfl⟩, ?_⟩
      show α' 17 g.1.toNatClampNeg = nI a
      rw [e17, ei, nI_clamp (by omega), pk_us]
    · have hg2 : (dn ++ g :: ts)[k]? = some g' := by
        rcases Nat.lt_or_ge k dn.length with z | z
        · rw [List.getElem?_append_left z] at hg' ⊢
          exact hg'
        · rw [List.getElem?_append_right z] at hg' ⊢
          rw [show k - dn.length = (k - dn.length - 1) + 1 by omega] at hg' ⊢
          simpa using hg'
      obtain ⟨z1, z2, z3, z4, z5, z6⟩ := d1 k g' s hg2 hs
      refine ⟨by rw [e20]; exact z1, by rw [e19]; exact z2, z3, by rw [e18]; exact z4, z5, ?_⟩
      obtain ⟨j, c, hj, _, ej, _⟩ := h.at h100 hg2
      have hne : j ≠ i := fun z => e (h.uni h100 hg hg2 (by rw [ej, ei, z]))
      rw [e17, ej, nI_clamp (by omega), pk_un hne]
      rw [ej, nI_clamp (by omega)] at z6
      exact z6
set_option maxRecDepth 100000 in
set_option maxHeartbeats 4000000 in
theorem c_Md_tick_loop {n m : Nat} {ν : Int64} {cs : List (Int32 × Int32)} {sl : List Nat} {h0 : aH} {σ0 : Nat → Int32} {α0 : Nat → Nat → Int32} {Q : aQ} (hc : mCl σ0 α0 cs) : ∀ (us : List (Int32 × Int32)) (i : Nat) (h : aH) (σ : Nat → Int32) (α : Nat → Nat → Int32) (dn ts : List Pd) (ms : List Mg) (k : Int32), cs.drop i = us → i ≤ cs.length → Md h m σ ν α → mdO h0 h m → sX [10, 13] σ0 σ → aX [7, 8, 9, 10, 17] α0 α → ts.map (fun g => g.1) = (pnd us i).map nI → mPd α cs (dn ++ ts) sl → mNe σ α ms → (∀ h' σ' α', Md h' m σ' ν α' → mdO h0 h' m → mPd α' cs (dn ++ (goF ts ms k).1) sl → mNe σ' α' (goF ts ms k).2.1 → sX [10, 13] σ0 σ' → aX [7, 8, 9, 10, 17] α0 α' → Q (some (.int (goF ts ms k).2.2)) h') → Tri M_Md_tick (a_rm 2 0 0) (a_Z 0 0 Q) 4 [(2, .int (nI i)), (1, .int k), (0, .ref m)] [] n h 0 0 := by
  have h100 := hc.1
  intro us
  induction us with
  | nil =>
    intro i h σ α dn ts ms k hus hi hM hO sx ax hts hp hn hQ
    have hi2 : i = cs.length := Nat.le_antisymm hi (List.drop_eq_nil_iff.mp hus)
    have e25 : σ 25 = nI cs.length := (sx 25 (by decide)).trans hc.2.1
    have ht0 : ts = [] := by simpa [pnd] using hts
    subst ht0
    refine T_iload_n (pc := 4) d_Md_tick_4 rfl ?_
    refine T_aload_n (pc := 5) d_Md_tick_5 rfl ?_
    refine T_get (pc := 6) d_Md_tick_6 sF_Md_201_Md hM.1 rfl ?_
    refine T_icmp_ge (tgt := 63) (pc := 9) d_Md_tick_9 (by decide) (fun q9 => ?_) (fun q9 => absurd q9 (fun z => z (by rw [e25, hi2]; exact Int32.le_refl _)))
    refine T_iload_n (pc := 63) d_Md_tick_63 rfl ?_
    refine T_iret (pc := 64) d_Md_tick_64 rfl rfl (Nat.le_refl _) ?_
    exact hQ h σ α hM hO hp hn sx ax
  | cons c us ih =>
    intro i h σ α dn ts ms k hus hi hM hO sx ax hts hp hn hQ
    have e25 : σ 25 = nI cs.length := (sx 25 (by decide)).trans hc.2.1
    have hi2 : i < cs.length := by
      have := congrArg List.length hus
      simp at this
      omega
    have hci : cs[i]? = some c := by
      have := congrArg (fun l => l[0]?) hus
      simpa using this
    have hus2 : cs.drop (i + 1) = us := by
      rw [← List.drop_drop, hus]
      rfl
    have e15 : α 15 (nI i).toNatClampNeg = c.1 := by rw [nI_clamp (by omega), ax 15 (by decide)]; exact (hc.2.2 i c hci).1
    rw [pnd] at hts
    refine T_iload_n (pc := 4) d_Md_tick_4 rfl ?_
    refine T_aload_n (pc := 5) d_Md_tick_5 rfl ?_
    refine T_get (pc := 6) d_Md_tick_6 sF_Md_201_Md hM.1 rfl ?_
    refine T_icmp_ge (tgt := 63) (pc := 9) d_Md_tick_9 (by decide) (fun q9 => absurd q9 (by rw [e25]; exact nI_ge hi2 (by omega))) (fun q9 => ?_)
    refine T_aload_n (pc := 12) d_Md_tick_12 rfl ?_
    refine T_get (pc := 13) d_Md_tick_13 sF_Md_53_Md hM.1 rfl ?_
    refine T_iload_n (pc := 16) d_Md_tick_16 rfl ?_
    refine T_iald (N := 100) (pc := 17) d_Md_tick_17 (hM.arr 15) (vp_in_nI (by omega) (by decide)) ?_
    refine T_top (e15) ?_
    refine T_iconst (v := 3) (pc := 18) d_Md_tick_18 rfl ?_
    refine T_icmp_ne (tgt := 57) (pc := 19) d_Md_tick_19 (by decide) (fun q19 => ?_) (fun q19 => ?_)
    · refine T_iinc (pc := 57) d_Md_tick_57 rfl (nI_1 i) (Nat.le_of_ble_eq_true rfl) rfl ?_
      refine T_goto (tgt := 4) (pc := 60) d_Md_tick_60 (by decide) ?_
      first
        | (rw [if_neg q19] at hts
           exact ih (i + 1) _ _ _ _ _ _ _ hus2 hi2 hM hO sx ax hts hp hn hQ)
        | (have ha2 : a ≠ 2 := fun z => q39 (by rw [z]; rfl)
           have hp1 : mPd α1 cs ((dn ++ [(g.1, nI (a + 1), g.2.2)]) ++ ts') sl := hp.age h100 eg hi2 (by omega) E17 (a1 18 (by decide)) (a1 19 (by decide)) (a1 20 (by decide))
           have hn1 : mNe σ α1 ms := hn.same rfl (a1 8 (by decide)) (a1 9 (by decide)) (a1 10 (by decide))
           have hgo : goF (g :: ts') ms k = ((g.1, nI (a + 1), g.2.2) :: (goF ts' ms k).1, (goF ts' ms k).2) := by
             rw [goF, if_neg (by rw [ea, nI_1]; exact nI_ge (b := 3) (by omega) (by decide)), ea, nI_1]
           rw [hgo] at hQ
           exact ih (i + 1) _ _ _ _ _ _ _ hus2 hi2 M1 (hO.tr O1) sx (ax.tr (a1.mono (by decide))) hts' hp1 hn1 (fun h' σ' α' k1 k2 k3 k4 k5 k6 => hQ h' σ' α' k1 k2 (by rw [List.append_assoc] at k3; exact k3) k4 k5 k6))
    · rw [if_pos q19] at hts
      obtain ⟨g, ts', rfl, eg, hts'⟩ : ∃ g ts', ts = g :: ts' ∧ g.1 = nI i ∧ ts'.map (fun g => g.1) = (pnd us (i + 1)).map nI := by
        cases ts with
        | nil => cases hts
        | cons g ts' =>
          simp only [List.map_cons, List.cons.injEq] at hts
          exact ⟨g, ts', rfl, hts.1, hts.2⟩
      have hg : (dn ++ g :: ts')[dn.length]? = some g := by rw [List.getElem?_append_right (Nat.le_refl _), Nat.sub_self]; rfl
      obtain ⟨s, hs⟩ : ∃ s, sl[dn.length]? = some s := ⟨_, List.getElem?_eq_getElem (by rw [hp.2.1.1]; simp)⟩
      obtain ⟨z1, z2, z3, z4, ⟨a, ha, ea⟩, z6⟩ := hp.2.2.2 dn.length g s hg hs
      rw [eg, nI_clamp (by omega), ea] at z6
      have e17 : α 17 (nI i).toNatClampNeg + 1 = nI (a + 1) := by rw [nI_clamp (by omega), z6]; exact nI_add a 1
      refine T_aload_n (pc := 22) d_Md_tick_22 rfl ?_
      refine T_get (pc := 23) d_Md_tick_23 sF_Md_59_Md hM.1 rfl ?_
      refine T_iload_n (pc := 26) d_Md_tick_26 rfl ?_
      refine T_dup2 (pc := 27) d_Md_tick_27 rfl rfl ?_
      refine T_iald (N := 100) (pc := 28) d_Md_tick_28 (hM.arr 17) (vp_in_nI (by omega) (by decide)) ?_
      refine T_iconst (v := 1) (pc := 29) d_Md_tick_29 rfl ?_
      refine T_iadd (pc := 30) d_Md_tick_30 ?_
      refine T_top (e17) ?_
      refine T_iast (N := 100) (pc := 31) d_Md_tick_31 (by omega) (hM.arr 17) (vp_in_nI (by omega) (by decide)) (T_up (fun h31x1 g31x1 o31x1 => ?_))
      have M31x1 := hM.ast 17 g31x1 o31x1
      have O31x1 := mdO.o (j := 17) mdO.rf o31x1 (by decide)
      obtain ⟨α1, M1, E1⟩ : ∃ α1, Md _ m σ ν α1 ∧ α1 = va_up α 17 (upd (α 17) i (nI (a + 1))) := by
        refine ⟨_, M31x1, ?_⟩
        (rw [nI_clamp (by omega)]) <;> rfl
      have a1 : aX [17] α α1 := by rw [E1]; exact aX.rf.up (by decide)
      have E17 : α1 17 = upd (α 17) i (nI (a + 1)) := by rw [E1, va_up_self]
      have e37 : α1 17 (nI i).toNatClampNeg = nI (a + 1) := by rw [nI_clamp (by omega), E17, pk_us]
      have O1 := O31x1
      refine T_aload_n (pc := 32) d_Md_tick_32 rfl ?_
      refine T_get (pc := 33) d_Md_tick_33 sF_Md_59_Md M1.1 rfl ?_
      refine T_iload_n (pc := 36) d_Md_tick_36 rfl ?_
      refine T_iald (N := 100) (pc := 37) d_Md_tick_37 (M1.arr 17) (vp_in_nI (by omega) (by decide)) ?_
      refine T_top (e37) ?_
      refine T_iconst (v := 3) (pc := 38) d_Md_tick_38 rfl ?_
      refine T_icmp_ne (tgt := 57) (pc := 39) d_Md_tick_39 (by decide) (fun q39 => ?_) (fun q39 => ?_)
      · refine T_iinc (pc := 57) d_Md_tick_57 rfl (nI_1 i) (Nat.le_of_ble_eq_true rfl) rfl ?_
        refine T_goto (tgt := 4) (pc := 60) d_Md_tick_60 (by decide) ?_
        first
          | (rw [if_neg q19] at hts
             exact ih (i + 1) _ _ _ _ _ _ _ hus2 hi2 hM hO sx ax hts hp hn hQ)
          | (have ha2 : a ≠ 2 := fun z => q39 (by rw [z]; rfl)
             have hp1 : mPd α1 cs ((dn ++ [(g.1, nI (a + 1), g.2.2)]) ++ ts') sl := hp.age h100 eg hi2 (by omega) E17 (a1 18 (by decide)) (a1 19 (by decide)) (a1 20 (by decide))
             have hn1 : mNe σ α1 ms := hn.same rfl (a1 8 (by decide)) (a1 9 (by decide)) (a1 10 (by decide))
             have hgo : goF (g :: ts') ms k = ((g.1, nI (a + 1), g.2.2) :: (goF ts' ms k).1, (goF ts' ms k).2) := by
               rw [goF, if_neg (by rw [ea, nI_1]; exact nI_ge (b := 3) (by omega) (by decide)), ea, nI_1]
             rw [hgo] at hQ
             exact ih (i + 1) _ _ _ _ _ _ _ hus2 hi2 M1 (hO.tr O1) sx (ax.tr (a1.mono (by decide))) hts' hp1 hn1 (fun h' σ' α' k1 k2 k3 k4 k5 k6 => hQ h' σ' α' k1 k2 (by rw [List.append_assoc] at k3; exact k3) k4 k5 k6))
      · have ha2 : a = 2 := by have := (nI_eq (a := a + 1) (b := 3) (by omega) (by decide)).mp q39; omega
        subst ha2
        refine T_aload_n (pc := 42) d_Md_tick_42 rfl ?_
        refine T_get (pc := 43) d_Md_tick_43 sF_Md_59_Md M1.1 rfl ?_
        refine T_iload_n (pc := 46) d_Md_tick_46 rfl ?_
        refine T_iconst (v := 0) (pc := 47) d_Md_tick_47 rfl ?_
        refine T_iast (N := 100) (pc := 48) d_Md_tick_48 (by omega) (M1.arr 17) (vp_in_nI (by omega) (by decide)) (T_up (fun h48x2 g48x2 o48x2 => ?_))
        have M48x2 := M1.ast 17 g48x2 o48x2
        have O48x2 := mdO.o (j := 17) O1 o48x2 (by decide)
        refine T_iinc (pc := 49) d_Md_tick_49 rfl rfl (Nat.le_of_ble_eq_true rfl) rfl ?_
        refine T_aload_n (pc := 52) d_Md_tick_52 rfl ?_
        refine T_iload_n (pc := 53) d_Md_tick_53 rfl ?_
        obtain ⟨α2, M2, E2⟩ : ∃ α2, Md _ m σ ν α2 ∧ α2 = va_up α1 17 (upd (α1 17) i (nI 0)) := by
          refine ⟨_, M48x2, ?_⟩
          (rw [nI_clamp (by omega)]) <;> rfl
        have a2 : aX [17] α α2 := by rw [E2]; exact a1.up (by decide)
        have E172 : α2 17 = upd (α 17) i (nI 0) := by
          rw [E2, va_up_self, E17]
          funext q
          by_cases z : q = i
          · rw [z, pk_us, pk_us]
          · rw [pk_un z, pk_un z, pk_un z]
        have hp2 : mPd α2 cs ((dn ++ [(g.1, nI 0, g.2.2)]) ++ ts') sl := hp.age h100 eg hi2 (by decide) E172 (a2 18 (by decide)) (a2 19 (by decide)) (a2 20 (by decide))
        have hg2 : ((dn ++ [(g.1, nI 0, g.2.2)]) ++ ts')[dn.length]? = some (g.1, nI 0, g.2.2) := by rw [List.append_assoc, List.getElem?_append_right (Nat.le_refl _), Nat.sub_self]; rfl
        have hn2 : mNe σ α2 ms := hn.same rfl (a2 8 (by decide)) (a2 9 (by decide)) (a2 10 (by decide))
        have O2 := O48x2
        refine T_ivV (pc := 54) d_Md_tick_54 sI_Md_210 (c_Md_sendKept (x := nI i) (g := g.2.2) M2 hn2 z3 (fun s y1 y2 y3 => hp2.slot h100 hg2 s y1 (by rw [eg]; exact y2) (by rw [eg]; exact y3))) M2.1 rfl rfl ⟨(Nat.le_of_ble_eq_true rfl), (Nat.le_of_ble_eq_true rfl)⟩ ⟨(Nat.le_of_ble_eq_true rfl), (Nat.le_of_ble_eq_true rfl)⟩ (Nat.le_of_ble_eq_true rfl) (fun r3 h3 q3 => ?_)
        obtain ⟨σ3, ν3, α3, M3, O3, rfl, e3, hn3, s3, a3⟩ := q3
        rw [e3] at M3
        have hp3 := hp2.same (a3 17 (by decide)) (a3 18 (by decide)) (a3 19 (by decide)) (a3 20 (by decide))
        have hgo : goF (g :: ts') ms k = ((g.1, 0, g.2.2) :: (goF ts' (psh ms (g.2.2, true)) (k + 1)).1, (goF ts' (psh ms (g.2.2, true)) (k + 1)).2) := by
          rw [goF, if_pos (by rw [ea]; decide)]
        rw [hgo] at hQ
        refine T_iinc (pc := 57) d_Md_tick_57 rfl (nI_1 i) (Nat.le_of_ble_eq_true rfl) rfl ?_
        refine T_goto (tgt := 4) (pc := 60) d_Md_tick_60 (by decide) ?_
        exact ih (i + 1) _ _ _ _ _ _ _ hus2 hi2 M3 (hO.tr (O2.tr O3)) (sx.tr s3) (ax.tr ((a2.mono (by decide)).tr (a3.mono (by decide)))) hts' hp3 hn3 (fun h' σ' α' k1 k2 k3 k4 k5 k6 => hQ h' σ' α' k1 k2 (by rw [List.append_assoc] at k3; exact k3) k4 k5 k6)
set_option maxRecDepth 100000 in
set_option maxHeartbeats 4000000 in
theorem c_Md_tick {n m : Nat} {h : aH} {σ : Nat → Int32} {ν : Int64} {α : Nat → Nat → Int32} {cs : List (Int32 × Int32)} {ps : List Pd} {sl : List Nat} {ms : List Mg} (hM : Md h m σ ν α) (hc : mCl σ α cs) (hp : mPd α cs ps sl) (hn : mNe σ α ms) : Con M_Md_tick 2 0 0 n [.ref m] h (mQ h m (fun r σ' ν' α' => r = some (.int (goF ps ms 0).2.2) ∧ (∃ sl', mPd α' cs (goF ps ms 0).1 sl') ∧ mNe σ' α' (goF ps ms 0).2.1 ∧ sX [10, 13] σ σ' ∧ aX [7, 8, 9, 10, 17] α α')) := by
  refine Con.of rfl (Nat.le_of_ble_eq_true rfl) ?_
  refine T_iconst (v := 0) (pc := 0) d_Md_tick_0 rfl ?_
  refine T_istore_n (pc := 1) d_Md_tick_1 rfl (Nat.le_of_ble_eq_true rfl) rfl ?_
  refine T_iconst (v := 0) (pc := 2) d_Md_tick_2 rfl ?_
  refine T_istore_n (pc := 3) d_Md_tick_3 rfl (Nat.le_of_ble_eq_true rfl) rfl ?_
  exact c_Md_tick_loop hc cs 0 h σ α [] ps ms 0 List.drop_zero (Nat.zero_le _) hM mdO.rf sX.rf aX.rf hp.1 hp hn (fun h' σ' α' k1 k2 k3 k4 k5 k6 => ⟨σ', ν, α', k1, k2, rfl, ⟨sl, k3⟩, k4, k5, k6⟩)
