/-! OnceWireModel: empty, put, reset. -/
def mEm (α : Nat → Nat → Int32) (r : Nat) (b : Bool) : Nat → Nat → Int32 := va_up (va_up α 4 (upd (α 4) r (if b then 0 else 1))) 5 (upd (α 5) (4 * r) 0)
theorem mEm.ax {α : Nat → Nat → Int32} {r : Nat} {b : Bool} : aX [4, 5] α (mEm α r b) := (aX.rf.up (by decide)).up (by decide)
theorem mEm.a4 {α : Nat → Nat → Int32} {r : Nat} {b : Bool} : mEm α r b 4 = upd (α 4) r (if b then 0 else 1) := by
  unfold mEm
  rw [va_up_ne _ _ (by decide), va_up_self]
theorem mEm.a5 {α : Nat → Nat → Int32} {r : Nat} {b : Bool} : mEm α r b 5 = upd (α 5) (4 * r) 0 := by
  unfold mEm
  rw [va_up_self]
set_option maxRecDepth 100000 in
set_option maxHeartbeats 4000000 in
theorem c_Md_empty {n m : Nat} {h : aH} {σ : Nat → Int32} {ν : Int64} {α : Nat → Nat → Int32} {r : Nat} {b : Bool} (hM : Md h m σ ν α) (hr : r < 8) (hb : α 3 (r % 4) = bI b) : Con M_Md_empty 0 0 0 n [.ref m, .int (nI r)] h (mQ h m (fun r' σ' ν' α' => r' = none ∧ ν' = ν ∧ σ' = σ ∧ α' = mEm α r b)) := by
  refine Con.of rfl (Nat.le_of_ble_eq_true rfl) ?_
  refine T_aload_n (pc := 0) d_Md_empty_0 rfl ?_
  refine T_get (pc := 1) d_Md_empty_1 sF_Md_20_Md hM.1 rfl ?_
  refine T_iload_n (pc := 4) d_Md_empty_4 rfl ?_
  refine T_aload_n (pc := 5) d_Md_empty_5 rfl ?_
  refine T_get (pc := 6) d_Md_empty_6 sF_Md_16_Md hM.1 rfl ?_
  refine T_iload_n (pc := 9) d_Md_empty_9 rfl ?_
  refine T_iconst (v := 4) (pc := 10) d_Md_empty_10 rfl ?_
  refine T_irem (pc := 11) d_Md_empty_11 (by decide) ?_
  refine T_top (show nI r - nI r / 4 * 4 = nI (r % 4) from pk_rem (a := r) (d := 4) (by omega) (by decide) (by decide)) ?_
  refine T_zald (N := 4) (pc := 12) d_Md_empty_12 (hM.arr 3) (vp_in_nI (by omega) (by decide)) ?_
  refine T_if_eq (tgt := 20) (pc := 13) d_Md_empty_13 (by decide) (fun q13 => ?_) (fun q13 => ?_)
  · refine T_iconst (v := 1) (pc := 20) d_Md_empty_20 rfl ?_
    refine T_iast (N := 8) (pc := 21) d_Md_empty_21 (by omega) (hM.arr 4) (vp_in_nI hr (by decide)) (T_up (fun h21x1 g21x1 o21x1 => ?_))
    have M21x1 := hM.ast 4 g21x1 o21x1
    have O21x1 := mdO.o (j := 4) mdO.rf o21x1 (by decide)
    refine T_aload_n (pc := 22) d_Md_empty_22 rfl ?_
    refine T_get (pc := 23) d_Md_empty_23 sF_Md_23_Md M21x1.1 rfl ?_
    refine T_iconst (v := 4) (pc := 26) d_Md_empty_26 rfl ?_
    refine T_iload_n (pc := 27) d_Md_empty_27 rfl ?_
    refine T_imul (pc := 28) d_Md_empty_28 ?_
    refine T_top (show (4 : Int32) * nI r = nI (4 * r) from pk_mul 4 r) ?_
    refine T_iconst (v := 0) (pc := 29) d_Md_empty_29 rfl ?_
    refine T_iast (N := 32) (pc := 30) d_Md_empty_30 (by omega) (M21x1.arr 5) (vp_in_nI (by omega) (by decide)) (T_up (fun h30x2 g30x2 o30x2 => ?_))
    have M30x2 := M21x1.ast 5 g30x2 o30x2
    have O30x2 := mdO.o (j := 5) O21x1 o30x2 (by decide)
    refine T_vret (pc := 31) d_Md_empty_31 rfl rfl (Nat.le_refl _) ?_
    have M9 := M30x2
    rw [va_up_ne _ _ (by decide), nI_clamp (by omega), nI_clamp (by omega)] at M9
    have e9 : (α 3 (nI (r % 4)).toNatClampNeg) = bI b := by rw [nI_clamp (by omega)]; exact hb
    first
      | (have hb9 : b = false := bI_z (e9.symm.trans q13)
         subst hb9
         exact ⟨_, _, _, M9, O30x2, rfl, rfl, rfl, rfl⟩)
      | (have hb9 : b = true := bI_n (fun z => q13 (e9.trans z))
         subst hb9
         exact ⟨_, _, _, M9, O30x2, rfl, rfl, rfl, rfl⟩)
  · refine T_iconst (v := 0) (pc := 16) d_Md_empty_16 rfl ?_
    refine T_goto (tgt := 21) (pc := 17) d_Md_empty_17 (by decide) ?_
    refine T_iast (N := 8) (pc := 21) d_Md_empty_21 (by omega) (hM.arr 4) (vp_in_nI hr (by decide)) (T_up (fun h21x3 g21x3 o21x3 => ?_))
    have M21x3 := hM.ast 4 g21x3 o21x3
    have O21x3 := mdO.o (j := 4) mdO.rf o21x3 (by decide)
    refine T_aload_n (pc := 22) d_Md_empty_22 rfl ?_
    refine T_get (pc := 23) d_Md_empty_23 sF_Md_23_Md M21x3.1 rfl ?_
    refine T_iconst (v := 4) (pc := 26) d_Md_empty_26 rfl ?_
    refine T_iload_n (pc := 27) d_Md_empty_27 rfl ?_
    refine T_imul (pc := 28) d_Md_empty_28 ?_
    refine T_top (show (4 : Int32) * nI r = nI (4 * r) from pk_mul 4 r) ?_
    refine T_iconst (v := 0) (pc := 29) d_Md_empty_29 rfl ?_
    refine T_iast (N := 32) (pc := 30) d_Md_empty_30 (by omega) (M21x3.arr 5) (vp_in_nI (by omega) (by decide)) (T_up (fun h30x4 g30x4 o30x4 => ?_))
    have M30x4 := M21x3.ast 5 g30x4 o30x4
    have O30x4 := mdO.o (j := 5) O21x3 o30x4 (by decide)
    refine T_vret (pc := 31) d_Md_empty_31 rfl rfl (Nat.le_refl _) ?_
    have M9 := M30x4
    rw [va_up_ne _ _ (by decide), nI_clamp (by omega), nI_clamp (by omega)] at M9
    have e9 : (α 3 (nI (r % 4)).toNatClampNeg) = bI b := by rw [nI_clamp (by omega)]; exact hb
    first
      | (have hb9 : b = false := bI_z (e9.symm.trans q13)
         subst hb9
         exact ⟨_, _, _, M9, O30x4, rfl, rfl, rfl, rfl⟩)
      | (have hb9 : b = true := bI_n (fun z => q13 (e9.trans z))
         subst hb9
         exact ⟨_, _, _, M9, O30x4, rfl, rfl, rfl, rfl⟩)
theorem mVa.em {α : Nat → Nat → Int32} {r i : Nat} {ns : List Sf} {vs : List (List Int32)} {t : Sf} {w : List Int32} (hv : mVa α r ns vs) (ht : ns[i]? = some t) (hw : vs[i]? = some w) : mVa (mEm α (r + i) t.2.2) r ns (vs.set i (if t.2.2 then [] else [0])) := by
  refine hv.put ht hw ?_ (fun q z => by rw [mEm.a4, pk_un z]) (fun q z => by rw [mEm.a5, pk_un (by omega)]) (by split <;> simp) (fun z => by rw [z]; rfl) ?_
  · rw [mEm.a4, pk_us]
    split <;> rfl
  · rw [mEm.a5]
    split
    · exact Rw.nil
    · exact Rw.nil.app rfl
theorem mVa.far {α : Nat → Nat → Int32} {r r' : Nat} {b : Bool} {ns : List Sf} {vs : List (List Int32)} (hv : mVa α r ns vs) (h4 : ns.length ≤ 4) (hf : r' < r ∨ r + 4 ≤ r') : mVa (mEm α r' b) r ns vs := by
  refine ⟨hv.1, fun i t w ht hw => ?_⟩
  have hi := (List.getElem?_eq_some_iff.mp ht).1
  obtain ⟨a1, a2, a3, a4⟩ := hv.2 i t w ht hw
  refine ⟨?_, a2, a3, ?_⟩
  · rw [mEm.a4, pk_un (by omega)]
    exact a1
  · rw [mEm.a5]
    exact a4.same (fun q hq => pk_un (by omega))
theorem mVa.off {α α' : Nat → Nat → Int32} {r : Nat} {ns : List Sf} {vs : List (List Int32)} (hv : mVa α r ns vs) (h4 : ns.length ≤ 4) (e4 : ∀ q, r ≤ q → q < r + 4 → α' 4 q = α 4 q) (e5 : ∀ q, 4 * r ≤ q → q < 4 * r + 16 → α' 5 q = α 5 q) : mVa α' r ns vs := by
  refine ⟨hv.1, fun i t w ht hw => ?_⟩
  have hi := (List.getElem?_eq_some_iff.mp ht).1
  obtain ⟨a1, a2, a3, a4⟩ := hv.2 i t w ht hw
  exact ⟨(e4 _ (by omega) (by omega)).trans a1, a2, a3, a4.same (fun q hq => e5 _ (by omega) (by omega))⟩
set_option maxRecDepth 100000 in
set_option maxHeartbeats 4000000 in
theorem c_Md_put {n m : Nat} {h : aH} {σ : Nat → Int32} {ν : Int64} {α : Nat → Nat → Int32} {ns : List Sf} {vs : List (List Int32)} {f v : Int32} (hM : Md h m σ ν α) (hs : mSc σ α ns) (hv : mVa α 0 ns vs) : Con M_Md_put 1 0 0 n [.ref m, .int f, .int v] h (mQ h m (fun r σ' ν' α' => ν' = ν ∧ σ' = σ ∧ aX [4, 5] α α' ∧ r = some (.int (zO (putF ns vs f v))) ∧ mVa α' 0 ns ((putF ns vs f v).getD vs) ∧ (∀ q, q < 0 ∨ 0 + 4 ≤ q → α' 4 q = α 4 q) ∧ (∀ q, q < 4 * 0 ∨ 4 * 0 + 16 ≤ q → α' 5 q = α 5 q))) := by
  refine Con.of rfl (Nat.le_of_ble_eq_true rfl) ?_
  refine T_iload_n (pc := 0) d_Md_put_0 rfl ?_
  refine T_if_lt (tgt := 31) (pc := 1) d_Md_put_1 (by decide) (fun q1 => ?_) (fun q1 => ?_)
  · refine T_iconst (v := 0) (pc := 31) d_Md_put_31 rfl ?_
    refine T_zret (pc := 32) d_Md_put_32 rfl (by decide) rfl (Nat.le_refl _) ?_
    have hP : putF ns vs f v = none := by
      first
        | rw [putF, if_neg (fun z => absurd q1 (Int32.not_lt.mpr z.1))]
        | (rw [hs.2.1] at q9; rw [putF, if_neg (fun z => absurd z.2 (Int32.not_lt.mpr q9))])
    refine ⟨_, _, _, hM, mdO.rf, rfl, rfl, aX.rf, ?_, ?_, ?_⟩
    · rw [hP]
      rfl
    · rw [hP]
      exact hv
    · exact ⟨fun _ _ => rfl, fun _ _ => rfl⟩
  · refine T_iload_n (pc := 4) d_Md_put_4 rfl ?_
    refine T_aload_n (pc := 5) d_Md_put_5 rfl ?_
    refine T_get (pc := 6) d_Md_put_6 sF_Md_75_Md hM.1 rfl ?_
    refine T_icmp_ge (tgt := 31) (pc := 9) d_Md_put_9 (by decide) (fun q9 => ?_) (fun q9 => ?_)
    · refine T_iconst (v := 0) (pc := 31) d_Md_put_31 rfl ?_
      refine T_zret (pc := 32) d_Md_put_32 rfl (by decide) rfl (Nat.le_refl _) ?_
      have hP : putF ns vs f v = none := by
        first
          | rw [putF, if_neg (fun z => absurd q1 (Int32.not_lt.mpr z.1))]
          | (rw [hs.2.1] at q9; rw [putF, if_neg (fun z => absurd z.2 (Int32.not_lt.mpr q9))])
      refine ⟨_, _, _, hM, mdO.rf, rfl, rfl, aX.rf, ?_, ?_, ?_⟩
      · rw [hP]
        rfl
      · rw [hP]
        exact hv
      · exact ⟨fun _ _ => rfl, fun _ _ => rfl⟩
    · have hs4 := hs.1
      have e1 := hs.2.1
      rw [e1] at q9
      obtain ⟨i, hi, rfl⟩ := ((pk_ix f (n := ns.length) (by omega)).resolve_left q1).resolve_left q9
      have hf : 0 ≤ nI i ∧ nI i < nI ns.length := ⟨Int32.not_lt.mp q1, Int32.not_le.mp q9⟩
      have hcl : (nI i).toNatClampNeg = i := nI_clamp (by omega)
      obtain ⟨t, ht⟩ : ∃ t, ns[i]? = some t := ⟨_, List.getElem?_eq_getElem hi⟩
      obtain ⟨w, hw⟩ : ∃ w, vs[i]? = some w := ⟨_, List.getElem?_eq_getElem (by rw [hv.1]; exact hi)⟩
      have e2 : α 2 (nI i).toNatClampNeg = nI t.2.1 := by rw [hcl]; exact (hs.2.2 i t ht).2.1
      have ht3 := (hs.2.2 i t ht).2.2.2.2.2
      have hP0 : putF ns vs (nI i) v = if t.2.1 = 3 ∧ v ≠ 0 ∧ v ≠ 1 then none else stv ns vs i v := by rw [putF, if_pos hf, hcl, ht]
      refine T_aload_n (pc := 12) d_Md_put_12 rfl ?_
      refine T_get (pc := 13) d_Md_put_13 sF_Md_13_Md hM.1 rfl ?_
      refine T_iload_n (pc := 16) d_Md_put_16 rfl ?_
      refine T_iald (N := 4) (pc := 17) d_Md_put_17 (hM.arr 2) (vp_in_nI (by omega) (by decide)) ?_
      refine T_iconst (v := 3) (pc := 18) d_Md_put_18 rfl ?_
      refine T_icmp_ne (tgt := 33) (pc := 19) d_Md_put_19 (by decide) (fun q19 => ?_) (fun q19 => ?_)
      · have hP : putF ns vs (nI i) v = stv ns vs i v := by
          rw [hP0, if_neg (fun z => ?_)]
          first
            | exact q19 (e2.trans (by rw [z.1]; rfl))
            | exact z.2.1 q23
            | exact z.2.2 q28
        refine T_aload_n (pc := 33) d_Md_put_33 rfl ?_
        refine T_iload_n (pc := 34) d_Md_put_34 rfl ?_
        refine T_iload_n (pc := 35) d_Md_put_35 rfl ?_
        refine T_ivV (pc := 36) d_Md_put_36 sI_Md_83 (by have := c_Md_give (n := n) (r0 := 0) (x := v) hM hs (Or.inl rfl) hv ht hw; rw [Nat.zero_add] at this; exact this) hM.1 rfl rfl ⟨(Nat.le_of_ble_eq_true rfl), (Nat.le_of_ble_eq_true rfl)⟩ ⟨(Nat.le_of_ble_eq_true rfl), (Nat.le_of_ble_eq_true rfl)⟩ (Nat.le_of_ble_eq_true rfl) (fun r1 h1 q1 => ?_)
        obtain ⟨σ1, ν1, α1, M1, O1, rfl, rfl, a1, f4, f5, q1⟩ := q1
        cases hS : stv ns vs i v with
        | none =>
          rw [hS] at q1
          obtain ⟨rfl, e1⟩ := q1
          refine T_zret (pc := 39) d_Md_put_39 rfl (by decide) rfl (Nat.le_refl _) ?_
          refine ⟨_, _, _, M1, (mdO.tr mdO.rf O1), rfl, rfl, a1, ?_, ?_, ?_⟩
          · rw [hP, hS]
            rfl
          · rw [hP, hS, e1]
            exact hv
          · exact ⟨f4, f5⟩
        | some vs2 =>
          rw [hS] at q1
          obtain ⟨rfl, hv1⟩ := q1
          refine T_zret (pc := 39) d_Md_put_39 rfl (by decide) rfl (Nat.le_refl _) ?_
          refine ⟨_, _, _, M1, (mdO.tr mdO.rf O1), rfl, rfl, a1, ?_, ?_, ?_⟩
          · rw [hP, hS]
            rfl
          · rw [hP, hS]
            exact hv1
          · exact ⟨f4, f5⟩
      · refine T_iload_n (pc := 22) d_Md_put_22 rfl ?_
        refine T_if_eq (tgt := 33) (pc := 23) d_Md_put_23 (by decide) (fun q23 => ?_) (fun q23 => ?_)
        · have hP : putF ns vs (nI i) v = stv ns vs i v := by
            rw [hP0, if_neg (fun z => ?_)]
            first
              | exact q19 (e2.trans (by rw [z.1]; rfl))
              | exact z.2.1 q23
              | exact z.2.2 q28
          refine T_aload_n (pc := 33) d_Md_put_33 rfl ?_
          refine T_iload_n (pc := 34) d_Md_put_34 rfl ?_
          refine T_iload_n (pc := 35) d_Md_put_35 rfl ?_
          refine T_ivV (pc := 36) d_Md_put_36 sI_Md_83 (by have := c_Md_give (n := n) (r0 := 0) (x := v) hM hs (Or.inl rfl) hv ht hw; rw [Nat.zero_add] at this; exact this) hM.1 rfl rfl ⟨(Nat.le_of_ble_eq_true rfl), (Nat.le_of_ble_eq_true rfl)⟩ ⟨(Nat.le_of_ble_eq_true rfl), (Nat.le_of_ble_eq_true rfl)⟩ (Nat.le_of_ble_eq_true rfl) (fun r1 h1 q1 => ?_)
          obtain ⟨σ1, ν1, α1, M1, O1, rfl, rfl, a1, f4, f5, q1⟩ := q1
          cases hS : stv ns vs i v with
          | none =>
            rw [hS] at q1
            obtain ⟨rfl, e1⟩ := q1
            refine T_zret (pc := 39) d_Md_put_39 rfl (by decide) rfl (Nat.le_refl _) ?_
            refine ⟨_, _, _, M1, (mdO.tr mdO.rf O1), rfl, rfl, a1, ?_, ?_, ?_⟩
            · rw [hP, hS]
              rfl
            · rw [hP, hS, e1]
              exact hv
            · exact ⟨f4, f5⟩
          | some vs2 =>
            rw [hS] at q1
            obtain ⟨rfl, hv1⟩ := q1
            refine T_zret (pc := 39) d_Md_put_39 rfl (by decide) rfl (Nat.le_refl _) ?_
            refine ⟨_, _, _, M1, (mdO.tr mdO.rf O1), rfl, rfl, a1, ?_, ?_, ?_⟩
            · rw [hP, hS]
              rfl
            · rw [hP, hS]
              exact hv1
            · exact ⟨f4, f5⟩
        · refine T_iload_n (pc := 26) d_Md_put_26 rfl ?_
          refine T_iconst (v := 1) (pc := 27) d_Md_put_27 rfl ?_
          refine T_icmp_eq (tgt := 33) (pc := 28) d_Md_put_28 (by decide) (fun q28 => ?_) (fun q28 => ?_)
          · have hP : putF ns vs (nI i) v = stv ns vs i v := by
              rw [hP0, if_neg (fun z => ?_)]
              first
                | exact q19 (e2.trans (by rw [z.1]; rfl))
                | exact z.2.1 q23
                | exact z.2.2 q28
            refine T_aload_n (pc := 33) d_Md_put_33 rfl ?_
            refine T_iload_n (pc := 34) d_Md_put_34 rfl ?_
            refine T_iload_n (pc := 35) d_Md_put_35 rfl ?_
            refine T_ivV (pc := 36) d_Md_put_36 sI_Md_83 (by have := c_Md_give (n := n) (r0 := 0) (x := v) hM hs (Or.inl rfl) hv ht hw; rw [Nat.zero_add] at this; exact this) hM.1 rfl rfl ⟨(Nat.le_of_ble_eq_true rfl), (Nat.le_of_ble_eq_true rfl)⟩ ⟨(Nat.le_of_ble_eq_true rfl), (Nat.le_of_ble_eq_true rfl)⟩ (Nat.le_of_ble_eq_true rfl) (fun r1 h1 q1 => ?_)
            obtain ⟨σ1, ν1, α1, M1, O1, rfl, rfl, a1, f4, f5, q1⟩ := q1
            cases hS : stv ns vs i v with
            | none =>
              rw [hS] at q1
              obtain ⟨rfl, e1⟩ := q1
              refine T_zret (pc := 39) d_Md_put_39 rfl (by decide) rfl (Nat.le_refl _) ?_
              refine ⟨_, _, _, M1, (mdO.tr mdO.rf O1), rfl, rfl, a1, ?_, ?_, ?_⟩
              · rw [hP, hS]
                rfl
              · rw [hP, hS, e1]
                exact hv
              · exact ⟨f4, f5⟩
            | some vs2 =>
              rw [hS] at q1
              obtain ⟨rfl, hv1⟩ := q1
              refine T_zret (pc := 39) d_Md_put_39 rfl (by decide) rfl (Nat.le_refl _) ?_
              refine ⟨_, _, _, M1, (mdO.tr mdO.rf O1), rfl, rfl, a1, ?_, ?_, ?_⟩
              · rw [hP, hS]
                rfl
              · rw [hP, hS]
                exact hv1
              · exact ⟨f4, f5⟩
          · have hP : putF ns vs (nI i) v = none := by
              rw [hP0, if_pos ⟨(nI_eq (a := t.2.1) (b := 3) (by omega) (by decide)).mp (e2.symm.trans q19), q23, q28⟩]
            refine T_iconst (v := 0) (pc := 31) d_Md_put_31 rfl ?_
            refine T_zret (pc := 32) d_Md_put_32 rfl (by decide) rfl (Nat.le_refl _) ?_
            refine ⟨_, _, _, hM, mdO.rf, rfl, rfl, aX.rf, ?_, ?_, ?_⟩
            · rw [hP]
              rfl
            · rw [hP]
              exact hv
            · exact ⟨fun _ _ => rfl, fun _ _ => rfl⟩
