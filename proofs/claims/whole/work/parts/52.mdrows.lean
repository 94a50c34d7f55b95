/-! OnceWireModel: words, the rows of its values. -/
theorem sru (n : Nat) (hn : n ≤ 24) (x : Int32) : (x >>> (nI n &&& 31)) &&& 255 = (x.toUInt32 >>> ((nI n).toUInt32 &&& Int32.toUInt32 31)).toInt32 &&& 255 := b_ext (fun i hi => by
  rw [b_and, b_and, b_255, b_sshr n (by omega) x hi, b_ushr n (by omega)]
  by_cases q : i < 8
  · rw [if_pos (by omega)]
  · simp [q])
theorem sr0 (x : Int32) : x >>> (nI 0 &&& 31) = x := b_ext (fun i hi => by
  rw [b_sshr 0 (by omega) x hi, Nat.zero_add, if_pos hi])
def wbk (x : Int32) : Nat → List Int32
  | 0 => []
  | k + 1 => ((x >>> ((8 * nI k) &&& 31)) &&& 255) :: wbk x k
theorem wbk4 (x : Int32) : wbk x 4 = wby x := by
  have e : wbk x 4 = [(x >>> ((8 * nI 3) &&& 31)) &&& 255, (x >>> ((8 * nI 2) &&& 31)) &&& 255, (x >>> ((8 * nI 1) &&& 31)) &&& 255, (x >>> ((8 * nI 0) &&& 31)) &&& 255] := rfl
  rw [e, show (8 : Int32) * nI 3 = nI 24 from pk_mul 8 3, show (8 : Int32) * nI 2 = nI 16 from pk_mul 8 2, show (8 : Int32) * nI 1 = nI 8 from pk_mul 8 1, show (8 : Int32) * nI 0 = nI 0 from pk_mul 8 0, sru 24 (by omega), sru 16 (by omega), sru 8 (by omega), sr0]
  rfl
set_option maxRecDepth 100000 in
set_option maxHeartbeats 4000000 in
theorem c_Md_writeWord_loop {n m : Nat} {x : Int32} {ν : Int64} {Q : aQ} : ∀ (k : Nat) (h : aH) (σ : Nat → Int32) (α : Nat → Nat → Int32) (l : List Int32), k ≤ 4 → l.length + k ≤ 210 → Md h m σ ν α → mRe σ α l → (∀ h' σ' α', Md h' m σ' ν α' → mdO h h' m → mRe σ' α' (l ++ wbk x k) → sX [8] σ σ' → aX [6] α α' → Q none h') → Tri M_Md_writeWord (a_rm 1 0 0) (a_Z 0 0 Q) 2 [(2, .int (nI k + (-1))), (0, .ref m), (1, .int x)] [] n h 0 0 := by
  intro k
  induction k with
  | zero =>
    intro h σ α l hk hl hM hr hQ
    refine T_iload_n (pc := 2) d_Md_writeWord_2 rfl ?_
    refine T_if_lt (tgt := 26) (pc := 3) d_Md_writeWord_3 (by decide) (fun q3 => ?_) (fun q3 => ?_)
    · refine T_vret (pc := 26) d_Md_writeWord_26 rfl rfl (Nat.le_refl _) ?_
      exact hQ h σ α hM mdO.rf (by rw [wbk, List.append_nil]; exact hr) sX.rf aX.rf
    · exact absurd (by decide) q3
  | succ k ih =>
    intro h σ α l hk hl hM hr hQ
    rw [pk_m1]
    refine T_iload_n (pc := 2) d_Md_writeWord_2 rfl ?_
    refine T_if_lt (tgt := 26) (pc := 3) d_Md_writeWord_3 (by decide) (fun q3 => ?_) (fun q3 => ?_)
    · exact absurd q3 (nI_pos (by omega))
    · refine T_aload_n (pc := 6) d_Md_writeWord_6 rfl ?_
      refine T_iload_n (pc := 7) d_Md_writeWord_7 rfl ?_
      refine T_bipush (v := 8) (pc := 8) d_Md_writeWord_8 rfl ?_
      refine T_iload_n (pc := 10) d_Md_writeWord_10 rfl ?_
      refine T_imul (pc := 11) d_Md_writeWord_11 ?_
      refine T_ishr (pc := 12) d_Md_writeWord_12 ?_
      refine T_sipush (v := 255) (pc := 13) d_Md_writeWord_13 rfl ?_
      refine T_iand (pc := 16) d_Md_writeWord_16 ?_
      refine T_ivV (pc := 17) d_Md_writeWord_17 sI_Md_90 (c_Md_write hM hr (by omega)) hM.1 rfl rfl ⟨(Nat.le_of_ble_eq_true rfl), (Nat.le_of_ble_eq_true rfl)⟩ ⟨(Nat.le_of_ble_eq_true rfl), (Nat.le_of_ble_eq_true rfl)⟩ (Nat.le_of_ble_eq_true rfl) (fun r1 h1 q1 => ?_)
      obtain ⟨σ1, ν1, α1, M1, O1, rfl, rfl, hr1, s1, a1⟩ := q1
      refine T_iinc (pc := 20) d_Md_writeWord_20 rfl rfl (Nat.le_of_ble_eq_true rfl) rfl ?_
      refine T_goto (tgt := 2) (pc := 23) d_Md_writeWord_23 (by decide) ?_
      exact ih h1 _ _ _ (by omega) (by simp; omega) M1 hr1 (fun h' σ' α' k1 k2 k3 k4 k5 => hQ h' σ' α' k1 (O1.tr k2) (by rw [wbk]; simpa using k3) (s1.tr k4) (a1.tr k5))
set_option maxRecDepth 100000 in
set_option maxHeartbeats 4000000 in
theorem c_Md_writeWord {n m : Nat} {h : aH} {σ : Nat → Int32} {ν : Int64} {α : Nat → Nat → Int32} {x : Int32} {l : List Int32} (hM : Md h m σ ν α) (hr : mRe σ α l) (h2 : l.length + 4 ≤ 210) : Con M_Md_writeWord 1 0 0 n [.ref m, .int x] h (mQ h m (fun r σ' ν' α' => r = none ∧ ν' = ν ∧ mRe σ' α' (l ++ wby x) ∧ sX [8] σ σ' ∧ aX [6] α α')) := by
  refine Con.of rfl (Nat.le_of_ble_eq_true rfl) ?_
  refine T_iconst (v := 3) (pc := 0) d_Md_writeWord_0 rfl ?_
  refine T_istore_n (pc := 1) d_Md_writeWord_1 rfl (Nat.le_of_ble_eq_true rfl) rfl ?_
  exact c_Md_writeWord_loop 4 h σ α l (by omega) h2 hM hr (fun h' σ' α' k1 k2 k3 k4 k5 => ⟨σ', ν, α', k1, k2, rfl, rfl, by rw [← wbk4]; exact k3, k4, k5⟩)
theorem mVa.put {α α' : Nat → Nat → Int32} {r i : Nat} {ns : List Sf} {vs : List (List Int32)} {t : Sf} {w w' : List Int32} (hv : mVa α r ns vs) (ht : ns[i]? = some t) (hw : vs[i]? = some w) (e4 : α' 4 (r + i) = nI w'.length) (o4 : ∀ q, q ≠ r + i → α' 4 q = α 4 q) (o5 : ∀ q, q < 4 * (r + i) ∨ 4 * (r + i) + 4 ≤ q → α' 5 q = α 5 q) (hl : w'.length ≤ 4) (h1 : t.2.2 = false → w'.length = 1) (hR : Rw (α' 5) (4 * (r + i)) w') : mVa α' r ns (vs.set i w') := by
  have hi := (List.getElem?_eq_some_iff.mp hw).1
  refine ⟨by rw [List.length_set]; exact hv.1, fun j t' u ht' hu => ?_⟩
  by_cases e : j = i
  · subst e
    rw [List.getElem?_set_self hi] at hu
    rw [ht] at ht'
    cases hu
    cases ht'
    exact ⟨e4, hl, h1, hR⟩
  · rw [List.getElem?_set_ne (Ne.symm e)] at hu
    obtain ⟨a1, a2, a3, a4⟩ := hv.2 j t' u ht' hu
    exact ⟨(o4 _ (by omega)).trans a1, a2, a3, a4.same (fun q hq => o5 _ (by omega))⟩
set_option maxRecDepth 100000 in
set_option maxHeartbeats 4000000 in
theorem c_Md_give {n m : Nat} {h : aH} {σ : Nat → Int32} {ν : Int64} {α : Nat → Nat → Int32} {r0 i : Nat} {ns : List Sf} {vs : List (List Int32)} {t : Sf} {w : List Int32} {x : Int32} (hM : Md h m σ ν α) (hs : mSc σ α ns) (hr0 : r0 = 0 ∨ r0 = 4) (hv : mVa α r0 ns vs) (ht : ns[i]? = some t) (hw : vs[i]? = some w) : Con M_Md_give 0 0 0 n [.ref m, .int (nI (r0 + i)), .int x] h (mQ h m (fun r σ' ν' α' => ν' = ν ∧ σ' = σ ∧ aX [4, 5] α α' ∧ (∀ q, q < r0 ∨ r0 + 4 ≤ q → α' 4 q = α 4 q) ∧ (∀ q, q < 4 * r0 ∨ 4 * r0 + 16 ≤ q → α' 5 q = α 5 q) ∧ match stv ns vs i x with | some vs' => r = some (.int 1) ∧ mVa α' r0 ns vs' | none => r = some (.int 0) ∧ α' = α)) := by
  have hs4 := hs.1
  have hi : i < ns.length := (List.getElem?_eq_some_iff.mp ht).1
  have hr9 : r0 + i < 8 := by omega
  have e3 : α 3 i = bI t.2.2 := (hs.2.2 i t ht).2.2.1
  obtain ⟨v1, v2, v3, v4⟩ := hv.2 i t w ht hw
  have hmod : (r0 + i) % 4 = i := by omega
  refine Con.of rfl (Nat.le_of_ble_eq_true rfl) ?_
  refine T_aload_n (pc := 0) d_Md_give_0 rfl ?_
  refine T_get (pc := 1) d_Md_give_1 sF_Md_16_Md hM.1 rfl ?_
  refine T_iload_n (pc := 4) d_Md_give_4 rfl ?_
  refine T_iconst (v := 4) (pc := 5) d_Md_give_5 rfl ?_
  refine T_irem (pc := 6) d_Md_give_6 (by decide) ?_
  refine T_top (show nI (r0 + i) - nI (r0 + i) / 4 * 4 = nI i from (pk_rem (a := r0 + i) (d := 4) (by omega) (by decide) (by decide)).trans (by rw [hmod])) ?_
  refine T_zald (N := 4) (pc := 7) d_Md_give_7 (hM.arr 3) (vp_in_nI (by omega) (by decide)) ?_
  refine T_if_ne (tgt := 22) (pc := 8) d_Md_give_8 (by decide) (fun q8 => ?_) (fun q8 => ?_)
  · refine T_aload_n (pc := 22) d_Md_give_22 rfl ?_
    refine T_get (pc := 23) d_Md_give_23 sF_Md_20_Md hM.1 rfl ?_
    refine T_iload_n (pc := 26) d_Md_give_26 rfl ?_
    refine T_iald (N := 8) (pc := 27) d_Md_give_27 (hM.arr 4) (vp_in_nI hr9 (by decide)) ?_
    refine T_iconst (v := 4) (pc := 28) d_Md_give_28 rfl ?_
    refine T_icmp_ne (tgt := 34) (pc := 29) d_Md_give_29 (by decide) (fun q29 => ?_) (fun q29 => ?_)
    · have hw4 : w.length < 4 := by
        rcases Nat.lt_or_ge w.length 4 with z | z
        · exact z
        · exact absurd (show α 4 (nI (r0 + i)).toNatClampNeg = 4 by rw [nI_clamp (by omega), v1, show w.length = 4 by omega]; rfl) q29
      refine T_aload_n (pc := 34) d_Md_give_34 rfl ?_
      refine T_get (pc := 35) d_Md_give_35 sF_Md_23_Md hM.1 rfl ?_
      refine T_iconst (v := 4) (pc := 38) d_Md_give_38 rfl ?_
      refine T_iload_n (pc := 39) d_Md_give_39 rfl ?_
      refine T_imul (pc := 40) d_Md_give_40 ?_
      refine T_top (show (4 : Int32) * nI (r0 + i) = nI (4 * (r0 + i)) from pk_mul 4 (r0 + i)) ?_
      refine T_aload_n (pc := 41) d_Md_give_41 rfl ?_
      refine T_get (pc := 42) d_Md_give_42 sF_Md_20_Md hM.1 rfl ?_
      refine T_iload_n (pc := 45) d_Md_give_45 rfl ?_
      refine T_iald (N := 8) (pc := 46) d_Md_give_46 (hM.arr 4) (vp_in_nI hr9 (by decide)) ?_
      refine T_iadd (pc := 47) d_Md_give_47 ?_
      refine T_iload_n (pc := 48) d_Md_give_48 rfl ?_
      refine T_iast (N := 32) (pc := 49) d_Md_give_49 (by omega) (hM.arr 5) (by rw [nI_clamp (by omega), v1, nI_add]; exact vp_in_nI (by omega) (by decide)) (T_up (fun h49x1 g49x1 o49x1 => ?_))
      have M49x1 := hM.ast 5 g49x1 o49x1
      have O49x1 := mdO.o (j := 5) mdO.rf o49x1 (by decide)
      refine T_aload_n (pc := 50) d_Md_give_50 rfl ?_
      refine T_get (pc := 51) d_Md_give_51 sF_Md_20_Md M49x1.1 rfl ?_
      refine T_iload_n (pc := 54) d_Md_give_54 rfl ?_
      refine T_dup2 (pc := 55) d_Md_give_55 rfl rfl ?_
      refine T_iald (N := 8) (pc := 56) d_Md_give_56 (M49x1.arr 4) (vp_in_nI hr9 (by decide)) ?_
      refine T_iconst (v := 1) (pc := 57) d_Md_give_57 rfl ?_
      refine T_iadd (pc := 58) d_Md_give_58 ?_
      refine T_iast (N := 8) (pc := 59) d_Md_give_59 (by omega) (M49x1.arr 4) (vp_in_nI hr9 (by decide)) (T_up (fun h59x2 g59x2 o59x2 => ?_))
      have M59x2 := M49x1.ast 4 g59x2 o59x2
      have O59x2 := mdO.o (j := 4) O49x1 o59x2 (by decide)
      refine T_iconst (v := 1) (pc := 60) d_Md_give_60 rfl ?_
      refine T_zret (pc := 61) d_Md_give_61 rfl (by decide) rfl (Nat.le_refl _) ?_
      have hz : t.2.2 = true := bI_n (fun z => q8 ((show α 3 (nI i).toNatClampNeg = bI t.2.2 by rw [nI_clamp (by omega)]; exact e3).trans z))
      have em : α 4 (nI (r0 + i)).toNatClampNeg = nI w.length := by rw [nI_clamp (by omega)]; exact v1
      have M9 := M59x2
      rw [va_up_ne _ _ (by decide), em, nI_add, nI_clamp (by omega), nI_clamp (by omega), nI_1] at M9
      have hS : stv ns vs i x = some (vs.set i (w ++ [x])) := by
        unfold stv
        rw [ht, hw]
        exact (if_pos hz).trans (if_pos hw4)
      refine ⟨_, _, _, M9, O59x2, rfl, rfl, (aX.rf.up (by decide)).up (by decide), fun q z => by rw [va_up_self, pk_un (by omega)], fun q z => by rw [va_up_ne _ _ (by decide), va_up_self, pk_un (by omega)], ?_⟩
      rw [hS]
      refine ⟨rfl, hv.put ht hw (by rw [va_up_self, pk_us]; simp) (fun q z => by rw [va_up_self, pk_un z]) (fun q z => by rw [va_up_ne _ _ (by decide), va_up_self, pk_un (by omega)]) (by simp; omega) (fun z => by rw [hz] at z; cases z) (by rw [va_up_ne _ _ (by decide), va_up_self]; exact v4.app rfl)⟩
    · refine T_iconst (v := 0) (pc := 32) d_Md_give_32 rfl ?_
      refine T_zret (pc := 33) d_Md_give_33 rfl (by decide) rfl (Nat.le_refl _) ?_
      have hz : t.2.2 = true := bI_n (fun z => q8 ((show α 3 (nI i).toNatClampNeg = bI t.2.2 by rw [nI_clamp (by omega)]; exact e3).trans z))
      have em : α 4 (nI (r0 + i)).toNatClampNeg = nI w.length := by rw [nI_clamp (by omega)]; exact v1
      have hw4 : ¬ w.length < 4 := fun z => by
        have := q29
        rw [em] at this
        have := (nI_eq (a := w.length) (b := 4) (by omega) (by decide)).mp this
        omega
      have hS : stv ns vs i x = none := by
        unfold stv
        rw [ht, hw]
        exact (if_pos hz).trans (if_neg hw4)
      refine ⟨_, _, _, hM, mdO.rf, rfl, rfl, aX.rf, fun q _ => rfl, fun q _ => rfl, ?_⟩
      rw [hS]
      exact ⟨rfl, rfl⟩
  · refine T_aload_n (pc := 11) d_Md_give_11 rfl ?_
    refine T_get (pc := 12) d_Md_give_12 sF_Md_23_Md hM.1 rfl ?_
    refine T_iconst (v := 4) (pc := 15) d_Md_give_15 rfl ?_
    refine T_iload_n (pc := 16) d_Md_give_16 rfl ?_
    refine T_imul (pc := 17) d_Md_give_17 ?_
    refine T_top (show (4 : Int32) * nI (r0 + i) = nI (4 * (r0 + i)) from pk_mul 4 (r0 + i)) ?_
    refine T_iload_n (pc := 18) d_Md_give_18 rfl ?_
    refine T_iast (N := 32) (pc := 19) d_Md_give_19 (by omega) (hM.arr 5) (vp_in_nI (by omega) (by decide)) (T_up (fun h19x3 g19x3 o19x3 => ?_))
    have M19x3 := hM.ast 5 g19x3 o19x3
    have O19x3 := mdO.o (j := 5) mdO.rf o19x3 (by decide)
    refine T_iconst (v := 1) (pc := 20) d_Md_give_20 rfl ?_
    refine T_zret (pc := 21) d_Md_give_21 rfl (by decide) rfl (Nat.le_refl _) ?_
    have hz : t.2.2 = false := bI_z ((show α 3 (nI i).toNatClampNeg = bI t.2.2 by rw [nI_clamp (by omega)]; exact e3).symm.trans q8)
    have hS : stv ns vs i x = some (vs.set i [x]) := by
      unfold stv
      rw [ht, hw]
      exact if_neg (by rw [hz]; decide)
    have M9 := M19x3
    rw [nI_clamp (by omega)] at M9
    refine ⟨_, _, _, M9, O19x3, rfl, rfl, aX.rf.up (by decide), fun q _ => by rw [va_up_ne _ _ (by decide)], fun q z => by rw [va_up_self, pk_un (by omega)], ?_⟩
    rw [hS]
    refine ⟨rfl, hv.put ht hw (by rw [va_up_ne _ _ (by decide), v1, v3 hz]; rfl) (fun q _ => by rw [va_up_ne _ _ (by decide)]) (fun q z => by rw [va_up_self, pk_un (by omega)]) (by simp) (fun _ => rfl) (by rw [va_up_self]; exact Rw.nil.app rfl)⟩
