/-! OnceWire$Client.place. -/
theorem vi_one (k m : Nat) (h : m < 128) : vi k m = [nI m] := by
  cases k with
  | zero => rfl
  | succ k => rw [vi, if_pos h]
theorem vi_le2 {m : Nat} (h : m < 256) : (vi 4 m).length ≤ 2 := by
  show (vi (3 + 1) m).length ≤ 2
  rw [vi]
  split
  · simp
  · rw [vi_one 3 _ (by omega)]
    simp
theorem encT1_len {t : Sf} (h : t.1 ≤ 30) (x : Int32) : (encT1 t x).length ≤ 7 := by
  unfold encT1
  split
  · have h1 := vi_le2 (keyN_lt h)
    have h2 := wInt_len t.2.1 x
    rw [List.length_append]
    omega
  · simp
theorem encT1s_len {t : Sf} (h : t.1 ≤ 30) : ∀ w : List Int32, (w.flatMap (encT1 t)).length ≤ 7 * w.length
  | [] => by simp
  | x :: w => by
    have h1 := encT1_len h x
    have h2 := encT1s_len h w
    rw [List.flatMap_cons, List.length_append, List.length_cons]
    omega
theorem encT_len : ∀ (ts : List Sf) (us : List (List Int32)), (∀ t, t ∈ ts → t.1 ≤ 30) → (∀ w, w ∈ us → w.length ≤ 4) → (encT ts us).length ≤ 28 * ts.length
  | [], _, _, _ => by simp [encT]
  | _ :: _, [], _, _ => by simp [encT]
  | t :: ts, w :: us, h1, h2 => by
    have a1 := encT1s_len (h1 t (List.mem_cons_self ..)) w
    have a2 := h2 w (List.mem_cons_self ..)
    have a3 := encT_len ts us (fun x hx => h1 x (List.mem_cons_of_mem _ hx)) (fun x hx => h2 x (List.mem_cons_of_mem _ hx))
    rw [encT, List.length_append, List.length_cons]
    omega
theorem encW_len : ∀ (ts : List Sf) (us : List (List Int32)), (∀ w, w ∈ us → w.length ≤ 4) → (encW ts us).length ≤ 20 * ts.length
  | [], _, _ => by simp [encW]
  | _ :: _, [], _ => by simp [encW]
  | t :: ts, w :: us, h2 => by
    have a2 := h2 w (List.mem_cons_self ..)
    have a3 := encW_len ts us (fun x hx => h2 x (List.mem_cons_of_mem _ hx))
    have a4 : (if t.2.2 then wby (nI w.length) else []).length ≤ 4 := by
      split
      · rw [wby_len]
        exact Nat.le_refl _
      · simp
    rw [encW, List.length_append, List.length_append, List.length_cons, wbyl]
    omega
theorem enc_len {h : aH} {v sa : Nat} {wf : Bool} {ns : List Sf} {vs : List (List Int32)} (hs : Sc h sa ns) (hv : Va h v sa ns vs) : (enc wf ns vs).length ≤ 112 := by
  have h4 := hs.le
  have h1 : ∀ t, t ∈ ns → t.1 ≤ 30 := fun t ht => by
    obtain ⟨i, hi⟩ := List.getElem?_of_mem ht
    exact (hs.rng hi).2.1
  have h2 : ∀ w, w ∈ vs → w.length ≤ 4 := fun w hw => by
    obtain ⟨i, hi⟩ := List.getElem?_of_mem hw
    have hl := (List.getElem?_eq_some_iff.mp hi).1
    exact hv.le4 (i := i) (List.getElem?_eq_getElem (by rw [← hv.1]; exact hl)) hi
  unfold enc
  split
  · have := encW_len ns vs h2
    omega
  · have := encT_len ns vs h1 h2
    omega
theorem wrapL_len : ∀ (k : Nat) (l : List Int32), (wrapL k l).length ≤ l.length + 4 * ((l.length + 15) / 16)
  | 0, l => by simp [wrapL]
  | k + 1, l => by
    rw [wrapL]
    split
    · simp
    · split
      · rw [List.length_append, wby_len]
        omega
      · have := wrapL_len k (l.drop 16)
        rw [List.length_drop] at this
        rw [List.length_append, List.length_append, wby_len, List.length_take]
        omega
def reqR (wf : Bool) (ns : List Sf) (vs : List (List Int32)) (xid pr : Int32) : List Int32 := wby xid ++ (wby 0 ++ (wby pr ++ enc wf ns vs))
def reqB (wf : Bool) (ns : List Sf) (vs : List (List Int32)) (xid pr : Int32) : List Int32 := wrapL (reqR wf ns vs xid pr).length (reqR wf ns vs xid pr)
abbrev Ps : Type := Int32 × List (Int32 × Int32) × List Pd × List Mg
def plcF (wf : Bool) (ns : List Sf) (vs : List (List Int32)) (cs : List (Int32 × Int32)) (ps : List Pd) (ms : List Mg) (pr : Int32) : Ps := if pr < 0 ∨ 255 < pr then (-4, cs, ps, ms) else if 8 ≤ ps.length ∨ 100 ≤ cs.length then (-5, cs, ps, ms) else (nI cs.length, cs ++ [(3, 0)], ps ++ [(nI cs.length, 0, reqB wf ns vs (nI cs.length) pr)], psh ms (reqB wf ns vs (nI cs.length) pr, true))
def plcQ (c w fm : Nat) (ads wads : List Nat) (h : aH) (X : Ps) : aQ := fun r h' => r = some (.int X.1) ∧ Cl h' c w fm X.2.1 X.2.2.1 ads ∧ Nw h' w wads X.2.2.2 ∧ ∀ q, q < w ∨ w + 36 < q → q < c ∨ c + 23 < q → h' q = h q
theorem Cl.row {h h' : aH} {c w fm : Nat} {cs : List (Int32 × Int32)} {ps : List Pd} {ads : List Nat} (hv : Cl h c w fm cs ps ads) {q0 : Nat} {B : List Int32} (hq0 : ads[ps.length]? = some q0) (o : ∀ q, q ≠ q0 → q ≠ q0 + 1 → h' q = h q) (hB : By h' q0 156 B) : Cl h' c w fm cs ps ads := by
  obtain ⟨a, ⟨g1, g2, g3, g4, b1, b2, b3, b4, b5, b6, b7⟩, c1, c2, ⟨l, c3⟩⟩ := hv
  have hr0 := a.2.2.2.2 q0 (List.mem_of_getElem? hq0)
  have far : ∀ q, q ∈ ads → q ≠ q0 → h' q = h q ∧ h' (q + 1) = h (q + 1) := fun q hq hne => by
    have hr := a.2.2.2.2 q hq
    exact ⟨o q hne (by omega), o _ (by omega) (by omega)⟩
  refine ⟨a, ⟨g1, g2, g3, g4, (o _ (by omega) (by omega)).trans b1, (o _ (by omega) (by omega)).trans b2, (o _ (by omega) (by omega)).trans b3, (o _ (by omega) (by omega)).trans b4, (o _ (by omega) (by omega)).trans b5, (o _ (by omega) (by omega)).trans b6, b7⟩, fun q hq => ?_, fun i m q hm hq => ?_, ⟨l, c3.same (o _ (by omega) (by omega)) (o _ (by omega) (by omega))⟩⟩
  · by_cases e : q = q0
    · rw [e]
      exact ⟨B, hB⟩
    · obtain ⟨l', hl'⟩ := c1 q hq
      exact ⟨l', hl'.same (far q hq e).1 (far q hq e).2⟩
  · have hi := (List.getElem?_eq_some_iff.mp hm).1
    have e : q ≠ q0 := nodup_ne a.2.2.2.1 hq hq0 (by omega)
    have hq' := List.mem_of_getElem? hq
    exact (c2 i m q hm hq).same (far q hq' e).1 (far q hq' e).2
theorem Cl.grow {h : aH} {c w fm : Nat} {cs : List (Int32 × Int32)} {ps : List Pd} {ads : List Nat} (hv : Cl h c w fm cs ps ads) (hp : ps.length < 8) (hc : cs.length < 100) {q0 : Nat} {B : List Int32} (hq0 : ads[ps.length]? = some q0) (hB : By h q0 156 B) : ∃ gs gx ga : Nat → Int32, h (c + 3) = some (.inl (.int, 100, .inl gs)) ∧ h (c + 5) = some (.inl (.int, 8, .inl gx)) ∧ h (c + 6) = some (.inl (.int, 8, .inl ga)) ∧ ∀ (x y z : Int32) (h' : aH), h' c = some (.inr (2, clO c w fm (cs.length + 1) (ps.length + 1))) → h' (c + 3) = some (.inl (.int, 100, .inl (upd gs cs.length z))) → h' (c + 5) = some (.inl (.int, 8, .inl (upd gx ps.length x))) → h' (c + 6) = some (.inl (.int, 8, .inl (upd ga ps.length y))) → (∀ q, q ≠ c → q ≠ c + 3 → q ≠ c + 5 → q ≠ c + 6 → h' q = h q) → Cl h' c w fm (cs ++ [(z, 0)]) (ps ++ [(x, y, B)]) ads := by
  obtain ⟨a, ⟨gs, gr, gx, ga, b1, b2, b3, b4, b5, b6, b7, b8, b9⟩, c1, c2, ⟨l, c3⟩⟩ := hv
  have hby : ∀ (h' : aH), (∀ q, q ≠ c → q ≠ c + 3 → q ≠ c + 5 → q ≠ c + 6 → h' q = h q) → ∀ q l', q ∈ ads → By h q 156 l' → By h' q 156 l' := fun h' o q l' hq hb => by
    have := a.2.2.2.2 q hq
    exact hb.same (o _ (by omega) (by omega) (by omega) (by omega)) (o _ (by omega) (by omega) (by omega) (by omega))
  refine ⟨gs, gx, ga, b2, b4, b5, fun x y z h' k1 k2 k3 k4 o => ⟨⟨by simp; omega, by simp; omega, a.2.2.1, a.2.2.2.1, a.2.2.2.2⟩, ⟨_, gr, _, _, by rw [k1]; simp, k2, (o _ (by omega) (by omega) (by omega) (by omega)).trans b3, k3, k4, (o _ (by omega) (by omega) (by omega) (by omega)).trans b6, fun i m hm => ?_, fun i h1 h2 => b8 i (by simp at h1; omega) h2, fun i m hm => ?_⟩, fun q hq => ?_, fun i m q hm hq => ?_, ⟨l, c3.same (o _ (by omega) (by omega) (by omega) (by omega)) (o _ (by omega) (by omega) (by omega) (by omega))⟩⟩⟩
  · by_cases e : i = cs.length
    · subst e
      rw [List.getElem?_append_right (Nat.le_refl _), Nat.sub_self] at hm
      cases hm
      exact ⟨pk_us, b8 _ (Nat.le_refl _) hc⟩
    · have hi := (List.getElem?_eq_some_iff.mp hm).1
      simp at hi
      rw [List.getElem?_append_left (by omega)] at hm
      rw [pk_un e]
      exact b7 i m hm
  · by_cases e : i = ps.length
    · subst e
      rw [List.getElem?_append_right (Nat.le_refl _), Nat.sub_self] at hm
      cases hm
      exact ⟨pk_us, pk_us⟩
    · have hi := (List.getElem?_eq_some_iff.mp hm).1
      simp at hi
      rw [List.getElem?_append_left (by omega)] at hm
      rw [pk_un e, pk_un e]
      exact b9 i m hm
  · obtain ⟨l', hl'⟩ := c1 q hq
    exact ⟨l', hby h' o q l' hq hl'⟩
  · have hq' := List.mem_of_getElem? hq
    by_cases e : i = ps.length
    · subst e
      rw [List.getElem?_append_right (Nat.le_refl _), Nat.sub_self] at hm
      cases hm
      rw [hq0] at hq
      cases hq
      exact hby h' o _ _ hq' hB
    · have hi := (List.getElem?_eq_some_iff.mp hm).1
      simp at hi
      rw [List.getElem?_append_left (by omega)] at hm
      exact hby h' o q _ hq' (c2 i m q hm hq)
set_option maxRecDepth 100000 in
set_option maxHeartbeats 4000000 in
theorem c_Client_place {n c w fm : Nat} {cs : List (Int32 × Int32)} {ps : List Pd} {ads : List Nat} {h : aH} (hv : Cl h c w fm cs ps ads) {wads : List Nat} {ms : List Mg} {wf : Bool} {sa v : Nat} {ns : List Sf} {vs : List (List Int32)} {pr : Int32} (hn : Nw h w wads ms) (hs : Sc h sa ns) (hva : Va h v sa ns vs) (hF : Fo h fm sa wf) (d1 : w + 36 < fm) (d2 : fm < c) (d3 : sa + 4 < v) (d4 : v + 2 < w) : Con M_Client_place 4 0 0 n [.ref c, .int pr, .ref v] h (plcQ c w fm ads wads h (plcF wf ns vs cs ps ms pr)) := by
  obtain ⟨lr, hbr⟩ := hv.2.2.2.2
  have hp8 := hv.1.2.1
  have hc100 := hv.1.1
  have hal := hv.1.2.2.1
  refine Con.of rfl (Nat.le_of_ble_eq_true rfl) ?_
  refine T_iload_n (pc := 0) d_Client_place_0 rfl ?_
  refine T_if_lt (tgt := 11) (pc := 1) d_Client_place_1 (by decide) (fun q1 => ?_) (fun q1 => ?_)
  · refine T_bipush (v := -4) (pc := 11) d_Client_place_11 rfl ?_
    refine T_iret (pc := 13) d_Client_place_13 rfl rfl (Nat.le_refl _) ?_
    unfold plcQ
    first
      | (rw [plcF, if_pos (Or.inl q1)]; exact ⟨rfl, hv, hn, fun _ _ _ => rfl⟩)
      | (rw [plcF, if_pos (Or.inr (Int32.not_le.mp q8))]; exact ⟨rfl, hv, hn, fun _ _ _ => rfl⟩)
      | (have hpr : ¬ (pr < 0 ∨ 255 < pr) := fun z => z.elim q1 (fun z => absurd q8 (Int32.not_le.mpr z))
         have hfull : 8 ≤ ps.length ∨ 100 ≤ cs.length := by
           first
             | exact Or.inl ((nI_leI (a := 8) (b := ps.length) (by decide) (by omega)).mp q20)
             | exact Or.inr (by have := mt (nI_ltI (a := cs.length) (b := 100) (by omega) (by decide)).mpr q29; omega)
         rw [plcF, if_neg hpr, if_pos hfull]
         exact ⟨rfl, hv, hn, fun _ _ _ => rfl⟩)
  · refine T_iload_n (pc := 4) d_Client_place_4 rfl ?_
    refine T_sipush (v := 255) (pc := 5) d_Client_place_5 rfl ?_
    refine T_icmp_le (tgt := 14) (pc := 8) d_Client_place_8 (by decide) (fun q8 => ?_) (fun q8 => ?_)
    · refine T_aload_n (pc := 14) d_Client_place_14 rfl ?_
      refine T_get (pc := 15) d_Client_place_15 sF_Client_41_Client hv.obj rfl ?_
      refine T_bipush (v := 8) (pc := 18) d_Client_place_18 rfl ?_
      refine T_icmp_ge (tgt := 32) (pc := 20) d_Client_place_20 (by decide) (fun q20 => ?_) (fun q20 => ?_)
      · refine T_bipush (v := -5) (pc := 32) d_Client_place_32 rfl ?_
        refine T_iret (pc := 34) d_Client_place_34 rfl rfl (Nat.le_refl _) ?_
        unfold plcQ
        first
          | (rw [plcF, if_pos (Or.inl q1)]; exact ⟨rfl, hv, hn, fun _ _ _ => rfl⟩)
          | (rw [plcF, if_pos (Or.inr (Int32.not_le.mp q8))]; exact ⟨rfl, hv, hn, fun _ _ _ => rfl⟩)
          | (have hpr : ¬ (pr < 0 ∨ 255 < pr) := fun z => z.elim q1 (fun z => absurd q8 (Int32.not_le.mpr z))
             have hfull : 8 ≤ ps.length ∨ 100 ≤ cs.length := by
               first
                 | exact Or.inl ((nI_leI (a := 8) (b := ps.length) (by decide) (by omega)).mp q20)
                 | exact Or.inr (by have := mt (nI_ltI (a := cs.length) (b := 100) (by omega) (by decide)).mpr q29; omega)
             rw [plcF, if_neg hpr, if_pos hfull]
             exact ⟨rfl, hv, hn, fun _ _ _ => rfl⟩)
      · refine T_aload_n (pc := 23) d_Client_place_23 rfl ?_
        refine T_get (pc := 24) d_Client_place_24 sF_Client_27_Client hv.obj rfl ?_
        refine T_bipush (v := 100) (pc := 27) d_Client_place_27 rfl ?_
        refine T_icmp_lt (tgt := 35) (pc := 29) d_Client_place_29 (by decide) (fun q29 => ?_) (fun q29 => ?_)
        · refine T_aload_n (pc := 35) d_Client_place_35 rfl ?_
          refine T_get (pc := 36) d_Client_place_36 sF_Client_27_Client hv.obj rfl ?_
          refine T_istore_n (pc := 39) d_Client_place_39 rfl (Nat.le_of_ble_eq_true rfl) rfl ?_
          refine T_aload_n (pc := 40) d_Client_place_40 rfl ?_
          refine T_get (pc := 41) d_Client_place_41 sF_Client_14_Client hv.obj rfl ?_
          have hpr : ¬ (pr < 0 ∨ 255 < pr) := by
            rintro (q | q)
            · exact q1 q
            · exact absurd q8 (Int32.not_le.mpr q)
          have hp : ps.length < 8 := by
            have := mt (nI_leI (a := 8) (b := ps.length) (by decide) (by omega)).mpr q20
            omega
          have hcl : cs.length < 100 := (nI_ltI (a := cs.length) (b := 100) (by omega) (by decide)).mp q29
          have hX : plcF wf ns vs cs ps ms pr = (nI cs.length, cs ++ [(3, 0)], ps ++ [(nI cs.length, 0, reqB wf ns vs (nI cs.length) pr)], psh ms (reqB wf ns vs (nI cs.length) pr, true)) := by
            rw [plcF, if_neg hpr, if_neg (by omega)]
          refine T_ivV (pc := 44) d_Client_place_44 sI_Client_52 (c_Bytes_clear hbr) hbr.obj rfl rfl ⟨(Nat.le_of_ble_eq_true rfl), (Nat.le_of_ble_eq_true rfl)⟩ ⟨(Nat.le_of_ble_eq_true rfl), (Nat.le_of_ble_eq_true rfl)⟩ (Nat.le_of_ble_eq_true rfl) (fun r1 h1 q1 => ?_)
          obtain ⟨rfl, hb1, o1⟩ := q1
          have hv1 := hv.rec (fun q z1 z2 => o1 q z1) ⟨_, hb1⟩
          refine T_aload_n (pc := 47) d_Client_place_47 rfl ?_
          refine T_get (pc := 48) d_Client_place_48 sF_Client_14_Client hv1.obj rfl ?_
          refine T_iload_n (pc := 51) d_Client_place_51 rfl ?_
          refine T_ivV (pc := 52) d_Client_place_52 sI_Client_55 (c_Bytes_appendWord hb1 (by decide) (by simp [wby_len])) hb1.obj rfl rfl ⟨(Nat.le_of_ble_eq_true rfl), (Nat.le_of_ble_eq_true rfl)⟩ ⟨(Nat.le_of_ble_eq_true rfl), (Nat.le_of_ble_eq_true rfl)⟩ (Nat.le_of_ble_eq_true rfl) (fun r2 h2 q2 => ?_)
          obtain ⟨rfl, hb2, o2⟩ := q2
          have hv2 := hv1.rec o2 ⟨_, hb2⟩
          refine T_aload_n (pc := 55) d_Client_place_55 rfl ?_
          refine T_get (pc := 56) d_Client_place_56 sF_Client_14_Client hv2.obj rfl ?_
          refine T_iconst (v := 0) (pc := 59) d_Client_place_59 rfl ?_
          refine T_ivV (pc := 60) d_Client_place_60 sI_Client_55 (c_Bytes_appendWord hb2 (by decide) (by simp [wby_len])) hb2.obj rfl rfl ⟨(Nat.le_of_ble_eq_true rfl), (Nat.le_of_ble_eq_true rfl)⟩ ⟨(Nat.le_of_ble_eq_true rfl), (Nat.le_of_ble_eq_true rfl)⟩ (Nat.le_of_ble_eq_true rfl) (fun r3 h3 q3 => ?_)
          obtain ⟨rfl, hb3, o3⟩ := q3
          have hv3 := hv2.rec o3 ⟨_, hb3⟩
          refine T_aload_n (pc := 63) d_Client_place_63 rfl ?_
          refine T_get (pc := 64) d_Client_place_64 sF_Client_14_Client hv3.obj rfl ?_
          refine T_iload_n (pc := 67) d_Client_place_67 rfl ?_
          refine T_ivV (pc := 68) d_Client_place_68 sI_Client_55 (c_Bytes_appendWord hb3 (by decide) (by simp [wby_len])) hb3.obj rfl rfl ⟨(Nat.le_of_ble_eq_true rfl), (Nat.le_of_ble_eq_true rfl)⟩ ⟨(Nat.le_of_ble_eq_true rfl), (Nat.le_of_ble_eq_true rfl)⟩ (Nat.le_of_ble_eq_true rfl) (fun r4 h4 q4 => ?_)
          obtain ⟨rfl, hb4, o4⟩ := q4
          have hv4 := hv3.rec o4 ⟨_, hb4⟩
          refine T_aload_n (pc := 71) d_Client_place_71 rfl ?_
          refine T_get (pc := 72) d_Client_place_72 sF_Client_48_Client hv4.obj rfl ?_
          refine T_aload_n (pc := 75) d_Client_place_75 rfl ?_
          refine T_aload_n (pc := 76) d_Client_place_76 rfl ?_
          refine T_get (pc := 77) d_Client_place_77 sF_Client_14_Client hv4.obj rfl ?_
          have oA : ∀ q, q ≠ c + 1 → q ≠ c + 1 + 1 → h4 q = h q := fun q z1 z2 => (o4 q z1 z2).trans ((o3 q z1 z2).trans ((o2 q z1 z2).trans (o1 q z1)))
          have hs4 := hs.same (h' := h4) (fun q z1 z2 => oA q (by omega) (by omega))
          have hva4 := hva.same (h' := h4) (fun q z1 z2 => oA q (by omega) (by omega))
          have hF4 : Fo h4 fm sa wf := (oA fm (by omega) (by omega)).trans hF
          have hel := enc_len (wf := wf) hs4 hva4
          have e4 : [] ++ wby (nI cs.length) ++ wby 0 ++ wby pr = wby (nI cs.length) ++ (wby 0 ++ wby pr) := by simp
          have hb4' : By h4 (c + 1) 200 (wby (nI cs.length) ++ (wby 0 ++ wby pr)) := by
            rw [← e4]
            exact hb4
          have hl4 : (wby (nI cs.length) ++ (wby 0 ++ wby pr)).length = 12 := rfl
          have key : ((wf = true ∧ Con M_WordFormat_write 3 0 0 n [.ref fm, .ref v, .ref (c + 1)] h4 (fun r h' => r = none ∧ By h' (c + 1) 200 ((wby (nI cs.length) ++ (wby 0 ++ wby pr)) ++ enc wf ns vs) ∧ ∀ q, q ≠ c + 1 → q ≠ c + 1 + 1 → h' q = h4 q)) ∨ (wf = false ∧ Con M_TaggedFormat_write 3 0 0 n [.ref fm, .ref v, .ref (c + 1)] h4 (fun r h' => r = none ∧ By h' (c + 1) 200 ((wby (nI cs.length) ++ (wby 0 ++ wby pr)) ++ enc wf ns vs) ∧ ∀ q, q ≠ c + 1 → q ≠ c + 1 + 1 → h' q = h4 q))) := by
            cases wf with
            | true => exact Or.inl ⟨rfl, c_WordFormat_write (by decide) d3 (by omega) (by omega) (by omega) hF4 hs4 hva4 hb4' (by rw [hl4]; simp only [enc] at hel; simp at hel; omega)⟩
            | false => exact Or.inr ⟨rfl, c_TaggedFormat_write (by decide) d3 (by omega) (by omega) (by omega) hF4 hs4 hva4 hb4' (by rw [hl4]; simp only [enc] at hel; simp at hel; omega)⟩
          have fin : ∀ r5 h5, (r5 = none ∧ By h5 (c + 1) 200 ((wby (nI cs.length) ++ (wby 0 ++ wby pr)) ++ enc wf ns vs) ∧ ∀ q, q ≠ c + 1 → q ≠ c + 1 + 1 → h5 q = h4 q) → Tri M_Client_place (a_rm 4 0 0) (a_Z 0 0 (plcQ c w fm ads wads h (plcF wf ns vs cs ps ms pr))) (80 + 3) [(3, .int (nI cs.length)), (0, .ref c), (1, .int pr), (2, .ref v)] (r5.toList ++ []) n h5 0 0 := by
            rintro r5 h5 ⟨rfl, hb5, o5⟩
            have hv5 := hv4.rec o5 ⟨_, hb5⟩
            have oB : ∀ q, q ≠ c + 1 → q ≠ c + 1 + 1 → h5 q = h q := fun q z1 z2 => (o5 q z1 z2).trans (oA q z1 z2)
            have e5 : (wby (nI cs.length) ++ (wby 0 ++ wby pr)) ++ enc wf ns vs = reqR wf ns vs (nI cs.length) pr := by simp [reqR]
            rw [e5] at hb5
            have hlr : (reqR wf ns vs (nI cs.length) pr).length ≤ 124 := by
              rw [← e5, List.length_append, hl4]
              omega
            have hlb : (reqB wf ns vs (nI cs.length) pr).length ≤ 156 := by
              have := wrapL_len (reqR wf ns vs (nI cs.length) pr).length (reqR wf ns vs (nI cs.length) pr)
              unfold reqB
              omega
            obtain ⟨q0, hq0⟩ : ∃ q0, ads[ps.length]? = some q0 := ⟨_, List.getElem?_eq_getElem (by omega)⟩
            have hadr := hv.1.2.2.2.2 q0 (List.mem_of_getElem? hq0)
            obtain ⟨lq, hbq⟩ := hv5.2.2.1 q0 (List.mem_of_getElem? hq0)
            have hA : h5 (c + 7) = some (.inl (a_tB, 8, .inr (fun j => ads[j]?))) := by
              obtain ⟨_, ⟨_, _, _, _, _, _, _, _, _, q, _⟩, _⟩ := hv5
              exact q
            refine T_aload_n (pc := 83) d_Client_place_83 rfl ?_
            refine T_get (pc := 84) d_Client_place_84 sF_Client_14_Client hv5.obj rfl ?_
            refine T_aload_n (pc := 87) d_Client_place_87 rfl ?_
            refine T_get (pc := 88) d_Client_place_88 sF_Client_37_Client hv5.obj rfl ?_
            refine T_aload_n (pc := 91) d_Client_place_91 rfl ?_
            refine T_get (pc := 92) d_Client_place_92 sF_Client_41_Client hv5.obj rfl ?_
            refine T_aald (pc := 95) d_Client_place_95 hA (vp_in_nI (by omega) (by decide)) (by rw [nI_clamp (by omega)]; exact hq0) ?_
            refine T_ivS (pc := 96) d_Client_place_96 sI_Client_64 (c_Fragments_wrap hbq hb5 (by decide) (by decide) (by omega) hlb) rfl rfl ⟨(Nat.le_of_ble_eq_true rfl), (Nat.le_of_ble_eq_true rfl)⟩ ⟨(Nat.le_of_ble_eq_true rfl), (Nat.le_of_ble_eq_true rfl)⟩ (Nat.le_of_ble_eq_true rfl) (fun r6 h6 q6 => ?_)
            obtain ⟨rfl, hb6, o6⟩ := q6
            have hv6 := hv5.row hq0 o6 hb6
            have hn6 := hn.same (h' := h6) (fun q z1 z2 => (o6 q (by omega) (by omega)).trans (oB q (by omega) (by omega)))
            have hv5_6 := (o6 c (by omega) (by omega)).trans hv5.obj
            have hA_6 := (o6 (c + 7) (by omega) (by omega)).trans hA
            refine T_aload_n (pc := 99) d_Client_place_99 rfl ?_
            refine T_get (pc := 100) d_Client_place_100 sF_Client_44_Client hv6.obj rfl ?_
            refine T_aload_n (pc := 103) d_Client_place_103 rfl ?_
            refine T_get (pc := 104) d_Client_place_104 sF_Client_37_Client hv6.obj rfl ?_
            refine T_aload_n (pc := 107) d_Client_place_107 rfl ?_
            refine T_get (pc := 108) d_Client_place_108 sF_Client_41_Client hv6.obj rfl ?_
            refine T_aald (pc := 111) d_Client_place_111 hA_6 (vp_in_nI (by omega) (by decide)) (by rw [nI_clamp (by omega)]; exact hq0) ?_
            refine T_iconst (v := 1) (pc := 112) d_Client_place_112 rfl ?_
            refine T_ivV (pc := 113) d_Client_place_113 sI_Client_70 (c_Network_send (b := true) hn6 hb6 (by decide) hlb (fun _ q9 hq9 e => by have := hn.1.2.2.1 q9 (List.mem_of_getElem? hq9); omega)) hn6.obj rfl rfl ⟨(Nat.le_of_ble_eq_true rfl), (Nat.le_of_ble_eq_true rfl)⟩ ⟨(Nat.le_of_ble_eq_true rfl), (Nat.le_of_ble_eq_true rfl)⟩ (Nat.le_of_ble_eq_true rfl) (fun r7 h7 q7 => ?_)
            have hn7 : Nw h7 w wads (psh ms (reqB wf ns vs (nI cs.length) pr, true)) ∧ r7 = none ∧ ∀ q, q < w ∨ w + 36 < q → h7 q = h6 q := by
              unfold psh
              split at q7
              · rename_i hlt
                rw [if_pos hlt]
                exact ⟨q7.2.1, q7.1, q7.2.2⟩
              · rename_i hlt
                rw [if_neg hlt, q7.2]
                exact ⟨hn6, q7.1, fun _ _ => rfl⟩
            obtain ⟨hn7, rfl, o7⟩ := hn7
            have hv7 := hv6.same (h' := h7) (fun q z1 z2 => o7 q (by omega))
            have hb7 := hb6.same (o7 q0 (by omega)) (o7 (q0 + 1) (by omega))
            obtain ⟨gs, gx, ga, hGs, hGx, hGa, hgrow⟩ := hv7.grow hp hcl hq0 hb7
            refine T_aload_n (pc := 116) d_Client_place_116 rfl ?_
            refine T_get (pc := 117) d_Client_place_117 sF_Client_20_Client hv7.obj rfl ?_
            refine T_iload_n (pc := 120) d_Client_place_120 rfl ?_
            refine T_iconst (v := 3) (pc := 121) d_Client_place_121 rfl ?_
            refine T_iast (pc := 122) d_Client_place_122 (Nat.succ_ne_zero _) hGs (vp_in_nI (by omega) (by decide)) (T_up (fun h122x1 g122x1 o122x1 => ?_))
            have hv7.obj_122x1 := (o122x1 c (by omega)).trans hv7.obj
            have hGx_122x1 := (o122x1 (c + 5) (by omega)).trans hGx
            have hGa_122x1 := (o122x1 (c + 6) (by omega)).trans hGa
            refine T_aload_n (pc := 123) d_Client_place_123 rfl ?_
            refine T_get (pc := 124) d_Client_place_124 sF_Client_31_Client hv7.obj_122x1 rfl ?_
            refine T_aload_n (pc := 127) d_Client_place_127 rfl ?_
            refine T_get (pc := 128) d_Client_place_128 sF_Client_41_Client hv7.obj_122x1 rfl ?_
            refine T_iload_n (pc := 131) d_Client_place_131 rfl ?_
            refine T_iast (pc := 132) d_Client_place_132 (Nat.succ_ne_zero _) hGx_122x1 (vp_in_nI (by omega) (by decide)) (T_up (fun h132x2 g132x2 o132x2 => ?_))
            have hv7.obj_132x2 := (o132x2 c (by omega)).trans hv7.obj_122x1
            have g122x1_132x2 := (o132x2 (c + 3) (by omega)).trans g122x1
            have hGa_132x2 := (o132x2 (c + 6) (by omega)).trans hGa_122x1
            refine T_aload_n (pc := 133) d_Client_place_133 rfl ?_
            refine T_get (pc := 134) d_Client_place_134 sF_Client_34_Client hv7.obj_132x2 rfl ?_
            refine T_aload_n (pc := 137) d_Client_place_137 rfl ?_
            refine T_get (pc := 138) d_Client_place_138 sF_Client_41_Client hv7.obj_132x2 rfl ?_
            refine T_iconst (v := 0) (pc := 141) d_Client_place_141 rfl ?_
            refine T_iast (pc := 142) d_Client_place_142 (Nat.succ_ne_zero _) hGa_132x2 (vp_in_nI (by omega) (by decide)) (T_up (fun h142x3 g142x3 o142x3 => ?_))
            have hv7.obj_142x3 := (o142x3 c (by omega)).trans hv7.obj_132x2
            have g122x1_142x3 := (o142x3 (c + 3) (by omega)).trans g122x1_132x2
            have g132x2_142x3 := (o142x3 (c + 5) (by omega)).trans g132x2
            refine T_aload_n (pc := 143) d_Client_place_143 rfl ?_
            refine T_dup (pc := 144) d_Client_place_144 rfl ?_
            refine T_get (pc := 145) d_Client_place_145 sF_Client_27_Client hv7.obj_142x3 rfl ?_
            refine T_iconst (v := 1) (pc := 148) d_Client_place_148 rfl ?_
            refine T_iadd (pc := 149) d_Client_place_149 ?_
            refine T_put (pc := 150) d_Client_place_150 sF_Client_27_Client hv7.obj_142x3 (Nat.le_of_ble_eq_true rfl) (a_fit_i _) (T_up (fun h150x4 g150x4 o150x4 => ?_))
            have g122x1_150x4 := (o150x4 (c + 3) (by omega)).trans g122x1_142x3
            have g132x2_150x4 := (o150x4 (c + 5) (by omega)).trans g132x2_142x3
            have g142x3_150x4 := (o150x4 (c + 6) (by omega)).trans g142x3
            refine T_aload_n (pc := 153) d_Client_place_153 rfl ?_
            refine T_dup (pc := 154) d_Client_place_154 rfl ?_
            refine T_get (pc := 155) d_Client_place_155 sF_Client_41_Client g150x4 rfl ?_
            refine T_iconst (v := 1) (pc := 158) d_Client_place_158 rfl ?_
            refine T_iadd (pc := 159) d_Client_place_159 ?_
            refine T_put (pc := 160) d_Client_place_160 sF_Client_41_Client g150x4 (Nat.le_of_ble_eq_true rfl) (a_fit_i _) (T_up (fun h160x5 g160x5 o160x5 => ?_))
            have g122x1_160x5 := (o160x5 (c + 3) (by omega)).trans g122x1_150x4
            have g132x2_160x5 := (o160x5 (c + 5) (by omega)).trans g132x2_150x4
            have g142x3_160x5 := (o160x5 (c + 6) (by omega)).trans g142x3_150x4
            refine T_iload_n (pc := 163) d_Client_place_163 rfl ?_
            refine T_iret (pc := 164) d_Client_place_164 rfl rfl (Nat.le_refl _) ?_
            have f3 := g122x1_160x5
            have f5 := g132x2_160x5
            have f6 := g142x3_160x5
            have fc := g160x5
            rw [nI_clamp (by omega)] at f3 f5 f6
            rw [nI_1, nI_1] at fc
            have oE : ∀ q, q ≠ c → q ≠ c + 3 → q ≠ c + 5 → q ≠ c + 6 → h160x5 q = h7 q := fun q z0 z3 z5 z6 => (o160x5 q z0).trans ((o150x4 q z0).trans ((o142x3 q z6).trans ((o132x2 q z5).trans (o122x1 q z3))))
            have hvE := hgrow _ _ _ _ fc f3 f5 f6 oE
            unfold plcQ
            rw [hX]
            exact ⟨rfl, hvE, hn7.same (fun q z1 z2 => oE q (by omega) (by omega) (by omega) (by omega)), fun q z1 z2 => (oE q (by omega) (by omega) (by omega) (by omega)).trans ((o7 q z1).trans ((o6 q (by omega) (by omega)).trans (oB q (by omega) (by omega))))⟩
          rcases key with ⟨hw, hcon⟩ | ⟨hw, hcon⟩
          · subst hw
            exact T_ivA (pc := 80) d_Client_place_80 sI_Client_58_WordFormat hcon hF4 rfl rfl ⟨(Nat.le_of_ble_eq_true rfl), (Nat.le_of_ble_eq_true rfl)⟩ ⟨(Nat.le_of_ble_eq_true rfl), (Nat.le_of_ble_eq_true rfl)⟩ (Nat.le_of_ble_eq_true rfl) fin
          · subst hw
            exact T_ivA (pc := 80) d_Client_place_80 sI_Client_58_TaggedFormat hcon hF4 rfl rfl ⟨(Nat.le_of_ble_eq_true rfl), (Nat.le_of_ble_eq_true rfl)⟩ ⟨(Nat.le_of_ble_eq_true rfl), (Nat.le_of_ble_eq_true rfl)⟩ (Nat.le_of_ble_eq_true rfl) fin
        · refine T_bipush (v := -5) (pc := 32) d_Client_place_32 rfl ?_
          refine T_iret (pc := 34) d_Client_place_34 rfl rfl (Nat.le_refl _) ?_
          unfold plcQ
          first
            | (rw [plcF, if_pos (Or.inl q1)]; exact ⟨rfl, hv, hn, fun _ _ _ => rfl⟩)
            | (rw [plcF, if_pos (Or.inr (Int32.not_le.mp q8))]; exact ⟨rfl, hv, hn, fun _ _ _ => rfl⟩)
            | (have hpr : ¬ (pr < 0 ∨ 255 < pr) := fun z => z.elim q1 (fun z => absurd q8 (Int32.not_le.mpr z))
               have hfull : 8 ≤ ps.length ∨ 100 ≤ cs.length := by
                 first
                   | exact Or.inl ((nI_leI (a := 8) (b := ps.length) (by decide) (by omega)).mp q20)
                   | exact Or.inr (by have := mt (nI_ltI (a := cs.length) (b := 100) (by omega) (by decide)).mpr q29; omega)
               rw [plcF, if_neg hpr, if_pos hfull]
               exact ⟨rfl, hv, hn, fun _ _ _ => rfl⟩)
    · refine T_bipush (v := -4) (pc := 11) d_Client_place_11 rfl ?_
      refine T_iret (pc := 13) d_Client_place_13 rfl rfl (Nat.le_refl _) ?_
      unfold plcQ
      first
        | (rw [plcF, if_pos (Or.inl q1)]; exact ⟨rfl, hv, hn, fun _ _ _ => rfl⟩)
        | (rw [plcF, if_pos (Or.inr (Int32.not_le.mp q8))]; exact ⟨rfl, hv, hn, fun _ _ _ => rfl⟩)
        | (have hpr : ¬ (pr < 0 ∨ 255 < pr) := fun z => z.elim q1 (fun z => absurd q8 (Int32.not_le.mpr z))
           have hfull : 8 ≤ ps.length ∨ 100 ≤ cs.length := by
             first
               | exact Or.inl ((nI_leI (a := 8) (b := ps.length) (by decide) (by omega)).mp q20)
               | exact Or.inr (by have := mt (nI_ltI (a := cs.length) (b := 100) (by omega) (by decide)).mpr q29; omega)
           rw [plcF, if_neg hpr, if_pos hfull]
           exact ⟨rfl, hv, hn, fun _ _ _ => rfl⟩)
