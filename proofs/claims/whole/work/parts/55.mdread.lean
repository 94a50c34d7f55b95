/-! OnceWireModel: load, copy, add, the reads, lose. -/
set_option maxRecDepth 100000 in
set_option maxHeartbeats 4000000 in
theorem c_Md_load {n m : Nat} {h : aH} {σ : Nat → Int32} {ν : Int64} {α : Nat → Nat → Int32} {i : Nat} {g : Mg} {ms : List Mg} (hM : Md h m σ ν α) (hn : mNe σ α ms) (hg : ms[i]? = some g) : Con M_Md_load 0 0 0 n [.ref m, .int (nI i)] h (mQ h m (fun r σ' ν' α' => r = none ∧ ν' = ν ∧ mMe σ' α' g.1 ∧ sX [10] σ σ' ∧ aX [7] α α')) := by
  have hi := (List.getElem?_eq_some_iff.mp hg).1
  have hn16 := hn.1
  obtain ⟨b1, b2, b3, b4⟩ := hn.2.2 i g hg
  refine Con.of rfl (Nat.le_of_ble_eq_true rfl) ?_
  refine T_aload_n (pc := 0) d_Md_load_0 rfl ?_
  refine T_aload_n (pc := 1) d_Md_load_1 rfl ?_
  refine T_get (pc := 2) d_Md_load_2 sF_Md_35_Md hM.1 rfl ?_
  refine T_iload_n (pc := 5) d_Md_load_5 rfl ?_
  refine T_iald (N := 16) (pc := 6) d_Md_load_6 (hM.arr 9) (vp_in_nI (by omega) (by decide)) ?_
  refine T_put (pc := 7) d_Md_load_7 sF_Md_116_Md hM.1 (Nat.le_of_ble_eq_true rfl) (a_fit_i _) (T_up (fun h7x1 g7x1 o7x1 => ?_))
  have M7x1 := hM.put 10 _ g7x1 o7x1 rfl
  have O7x1 := mdO.o (j := 0) mdO.rf o7x1 (by decide)
  refine T_iconst (v := 0) (pc := 10) d_Md_load_10 rfl ?_
  refine T_istore_n (pc := 11) d_Md_load_11 rfl (Nat.le_of_ble_eq_true rfl) rfl ?_
  have hlim : (upd σ 10 (α 9 (nI i).toNatClampNeg)) 10 = nI g.1.length := by rw [pk_us, nI_clamp (by omega)]; exact b2
  refine c_Md_load_cp (L := i) (l := g.1) hlim (by omega) (by omega) g.1 0 _ α List.drop_zero (Nat.zero_le _) M7x1 b4 Rw.nil (fun h1 α1 M1 O1 a1 r1 f1 => ?_)
  refine T_vret (pc := 44) d_Md_load_44 rfl rfl (Nat.le_refl _) ?_
  exact ⟨_, _, _, M1, (mdO.tr O7x1 O1), rfl, rfl, ⟨by omega, hlim, r1⟩, sX.rf.up (by decide), a1⟩
set_option maxRecDepth 100000 in
set_option maxHeartbeats 4000000 in
theorem c_Md_size {n m : Nat} {h : aH} {σ : Nat → Int32} {ν : Int64} {α : Nat → Nat → Int32} {k : Int32} {ms : List Mg} (hM : Md h m σ ν α) (hn : mNe σ α ms) : Con M_Md_size 1 0 0 n [.ref m, .int k] h (fun r h' => r = some (.int (if 0 ≤ k ∧ k < nI ms.length then nI (ms.getD k.toNatClampNeg ([], false)).1.length else -1)) ∧ h' = h) := by
  refine Con.of rfl (Nat.le_of_ble_eq_true rfl) ?_
  refine T_aload_n (pc := 0) d_Md_size_0 rfl ?_
  refine T_iload_n (pc := 1) d_Md_size_1 rfl ?_
  refine T_ivV (pc := 2) d_Md_size_2 sI_Md_122 (c_Md_isMessage (k := k) hM) hM.1 rfl rfl ⟨(Nat.le_of_ble_eq_true rfl), (Nat.le_of_ble_eq_true rfl)⟩ ⟨(Nat.le_of_ble_eq_true rfl), (Nat.le_of_ble_eq_true rfl)⟩ (Nat.le_of_ble_eq_true rfl) (fun r1 h1 q1 => ?_)
  obtain ⟨rfl, e1⟩ := q1
  rw [e1]
  refine T_if_eq (tgt := 17) (pc := 5) d_Md_size_5 (by decide) (fun q5 => ?_) (fun q5 => ?_)
  · refine T_iconst (v := -1) (pc := 17) d_Md_size_17 rfl ?_
    refine T_iret (pc := 18) d_Md_size_18 rfl rfl (Nat.le_refl _) ?_
    first
      | (rw [if_neg (fun z => ite_z q5 (by rw [hn.2.1]; exact z))]; exact ⟨rfl, rfl⟩)
      | (rw [if_pos hf, hcl, hgd, b2]; exact ⟨rfl, rfl⟩)
  · have hf := ite_n q5
    rw [hn.2.1] at hf
    have hn16 := hn.1
    obtain ⟨i, hi, rfl⟩ : ∃ i : Nat, i < ms.length ∧ k = nI i := by
      rcases pk_ix k (n := ms.length) (by omega) with q | q | q
      · exact absurd hf.1 (Int32.not_le.mpr q)
      · exact absurd hf.2 (Int32.not_lt.mpr q)
      · exact q
    have hcl : (nI i).toNatClampNeg = i := nI_clamp (by omega)
    obtain ⟨g, hg⟩ : ∃ g, ms[i]? = some g := ⟨_, List.getElem?_eq_getElem hi⟩
    have hgd : ms.getD i ([], false) = g := by rw [List.getD_eq_getElem?_getD, hg]; rfl
    obtain ⟨b1, b2, b3, b4⟩ := hn.2.2 i g hg
    refine T_aload_n (pc := 8) d_Md_size_8 rfl ?_
    refine T_get (pc := 9) d_Md_size_9 sF_Md_35_Md hM.1 rfl ?_
    refine T_iload_n (pc := 12) d_Md_size_12 rfl ?_
    refine T_iald (N := 16) (pc := 13) d_Md_size_13 (hM.arr 9) (vp_in_nI (by omega) (by decide)) ?_
    refine T_goto (tgt := 18) (pc := 14) d_Md_size_14 (by decide) ?_
    refine T_iret (pc := 18) d_Md_size_18 rfl rfl (Nat.le_refl _) ?_
    first
      | (rw [if_neg (fun z => ite_z q5 (by rw [hn.2.1]; exact z))]; exact ⟨rfl, rfl⟩)
      | (rw [if_pos hf, hcl, hgd, b2]; exact ⟨rfl, rfl⟩)
set_option maxRecDepth 100000 in
set_option maxHeartbeats 4000000 in
theorem c_Md_byteAt {n m : Nat} {h : aH} {σ : Nat → Int32} {ν : Int64} {α : Nat → Nat → Int32} {k j : Int32} {ms : List Mg} (hM : Md h m σ ν α) (hn : mNe σ α ms) : Con M_Md_byteAt 1 0 0 n [.ref m, .int k, .int j] h (fun r h' => r = some (.int (if 0 ≤ k ∧ k < nI ms.length then (if 0 ≤ j ∧ j < nI (ms.getD k.toNatClampNeg ([], false)).1.length then (ms.getD k.toNatClampNeg ([], false)).1.getD j.toNatClampNeg 0 else -1) else -1)) ∧ h' = h) := by
  refine Con.of rfl (Nat.le_of_ble_eq_true rfl) ?_
  refine T_aload_n (pc := 0) d_Md_byteAt_0 rfl ?_
  refine T_iload_n (pc := 1) d_Md_byteAt_1 rfl ?_
  refine T_ivV (pc := 2) d_Md_byteAt_2 sI_Md_122 (c_Md_isMessage (k := k) hM) hM.1 rfl rfl ⟨(Nat.le_of_ble_eq_true rfl), (Nat.le_of_ble_eq_true rfl)⟩ ⟨(Nat.le_of_ble_eq_true rfl), (Nat.le_of_ble_eq_true rfl)⟩ (Nat.le_of_ble_eq_true rfl) (fun r1 h1 q1 => ?_)
  obtain ⟨rfl, e1⟩ := q1
  rw [e1]
  refine T_if_eq (tgt := 22) (pc := 5) d_Md_byteAt_5 (by decide) (fun q5 => ?_) (fun q5 => ?_)
  · refine T_iconst (v := -1) (pc := 22) d_Md_byteAt_22 rfl ?_
    refine T_goto (tgt := 38) (pc := 23) d_Md_byteAt_23 (by decide) ?_
    refine T_iret (pc := 38) d_Md_byteAt_38 rfl rfl (Nat.le_refl _) ?_
    first
      | (rw [if_neg (fun z => ite_z q5 (by rw [hn.2.1]; exact z))]; exact ⟨rfl, rfl⟩)
      | (rw [if_pos hf, hcl, hgd, if_neg (fun z => absurd q9 (Int32.not_lt.mpr z.1))]; exact ⟨rfl, rfl⟩)
      | (rw [hcl, b2] at q19; rw [if_pos hf, hcl, hgd, if_neg (fun z => q19 z.2)]; exact ⟨rfl, rfl⟩)
      | (rw [if_pos hf, hcl, hgd, if_pos ⟨Int32.not_lt.mp q9, q19⟩, nI_clamp (n := jj) (by omega), eI, nI_clamp (by omega), b4.at hjj]; exact ⟨rfl, rfl⟩)
  · have hf := ite_n q5
    rw [hn.2.1] at hf
    have hn16 := hn.1
    obtain ⟨i, hi, rfl⟩ : ∃ i : Nat, i < ms.length ∧ k = nI i := by
      rcases pk_ix k (n := ms.length) (by omega) with q | q | q
      · exact absurd hf.1 (Int32.not_le.mpr q)
      · exact absurd hf.2 (Int32.not_lt.mpr q)
      · exact q
    have hcl : (nI i).toNatClampNeg = i := nI_clamp (by omega)
    obtain ⟨g, hg⟩ : ∃ g, ms[i]? = some g := ⟨_, List.getElem?_eq_getElem hi⟩
    have hgd : ms.getD i ([], false) = g := by rw [List.getD_eq_getElem?_getD, hg]; rfl
    obtain ⟨b1, b2, b3, b4⟩ := hn.2.2 i g hg
    refine T_iload_n (pc := 8) d_Md_byteAt_8 rfl ?_
    refine T_if_lt (tgt := 22) (pc := 9) d_Md_byteAt_9 (by decide) (fun q9 => ?_) (fun q9 => ?_)
    · refine T_iconst (v := -1) (pc := 22) d_Md_byteAt_22 rfl ?_
      refine T_goto (tgt := 38) (pc := 23) d_Md_byteAt_23 (by decide) ?_
      refine T_iret (pc := 38) d_Md_byteAt_38 rfl rfl (Nat.le_refl _) ?_
      first
        | (rw [if_neg (fun z => ite_z q5 (by rw [hn.2.1]; exact z))]; exact ⟨rfl, rfl⟩)
        | (rw [if_pos hf, hcl, hgd, if_neg (fun z => absurd q9 (Int32.not_lt.mpr z.1))]; exact ⟨rfl, rfl⟩)
        | (rw [hcl, b2] at q19; rw [if_pos hf, hcl, hgd, if_neg (fun z => q19 z.2)]; exact ⟨rfl, rfl⟩)
        | (rw [if_pos hf, hcl, hgd, if_pos ⟨Int32.not_lt.mp q9, q19⟩, nI_clamp (n := jj) (by omega), eI, nI_clamp (by omega), b4.at hjj]; exact ⟨rfl, rfl⟩)
    · refine T_iload_n (pc := 12) d_Md_byteAt_12 rfl ?_
      refine T_aload_n (pc := 13) d_Md_byteAt_13 rfl ?_
      refine T_get (pc := 14) d_Md_byteAt_14 sF_Md_35_Md hM.1 rfl ?_
      refine T_iload_n (pc := 17) d_Md_byteAt_17 rfl ?_
      refine T_iald (N := 16) (pc := 18) d_Md_byteAt_18 (hM.arr 9) (vp_in_nI (by omega) (by decide)) ?_
      refine T_icmp_lt (tgt := 26) (pc := 19) d_Md_byteAt_19 (by decide) (fun q19 => ?_) (fun q19 => ?_)
      · rw [hcl, b2] at q19
        obtain ⟨jj, hjj, rfl⟩ : ∃ jj : Nat, jj < g.1.length ∧ j = nI jj := by
          rcases pk_ix j (n := g.1.length) (by omega) with q | q | q
          · exact absurd q q9
          · exact absurd q19 (Int32.not_lt.mpr q)
          · exact q
        have eI : (160 : Int32) * nI i + nI jj = nI (160 * i + jj) := by rw [show (160 : Int32) * nI i = nI (160 * i) from pk_mul 160 i, nI_add]
        refine T_aload_n (pc := 26) d_Md_byteAt_26 rfl ?_
        refine T_get (pc := 27) d_Md_byteAt_27 sF_Md_32_Md hM.1 rfl ?_
        refine T_sipush (v := 160) (pc := 30) d_Md_byteAt_30 rfl ?_
        refine T_iload_n (pc := 33) d_Md_byteAt_33 rfl ?_
        refine T_imul (pc := 34) d_Md_byteAt_34 ?_
        refine T_iload_n (pc := 35) d_Md_byteAt_35 rfl ?_
        refine T_iadd (pc := 36) d_Md_byteAt_36 ?_
        refine T_iald (N := 2560) (pc := 37) d_Md_byteAt_37 (hM.arr 8) (by rw [eI]; exact vp_in_nI (by omega) (by decide)) ?_
        refine T_iret (pc := 38) d_Md_byteAt_38 rfl rfl (Nat.le_refl _) ?_
        first
          | (rw [if_neg (fun z => ite_z q5 (by rw [hn.2.1]; exact z))]; exact ⟨rfl, rfl⟩)
          | (rw [if_pos hf, hcl, hgd, if_neg (fun z => absurd q9 (Int32.not_lt.mpr z.1))]; exact ⟨rfl, rfl⟩)
          | (rw [hcl, b2] at q19; rw [if_pos hf, hcl, hgd, if_neg (fun z => q19 z.2)]; exact ⟨rfl, rfl⟩)
          | (rw [if_pos hf, hcl, hgd, if_pos ⟨Int32.not_lt.mp q9, q19⟩, nI_clamp (n := jj) (by omega), eI, nI_clamp (by omega), b4.at hjj]; exact ⟨rfl, rfl⟩)
      · refine T_iconst (v := -1) (pc := 22) d_Md_byteAt_22 rfl ?_
        refine T_goto (tgt := 38) (pc := 23) d_Md_byteAt_23 (by decide) ?_
        refine T_iret (pc := 38) d_Md_byteAt_38 rfl rfl (Nat.le_refl _) ?_
        first
          | (rw [if_neg (fun z => ite_z q5 (by rw [hn.2.1]; exact z))]; exact ⟨rfl, rfl⟩)
          | (rw [if_pos hf, hcl, hgd, if_neg (fun z => absurd q9 (Int32.not_lt.mpr z.1))]; exact ⟨rfl, rfl⟩)
          | (rw [hcl, b2] at q19; rw [if_pos hf, hcl, hgd, if_neg (fun z => q19 z.2)]; exact ⟨rfl, rfl⟩)
          | (rw [if_pos hf, hcl, hgd, if_pos ⟨Int32.not_lt.mp q9, q19⟩, nI_clamp (n := jj) (by omega), eI, nI_clamp (by omega), b4.at hjj]; exact ⟨rfl, rfl⟩)
def mCl (σ : Nat → Int32) (α : Nat → Nat → Int32) (cs : List (Int32 × Int32)) : Prop := cs.length ≤ 100 ∧ σ 25 = nI cs.length ∧ ∀ i g, cs[i]? = some g → α 15 i = g.1 ∧ (if g.1 = 0 then α 16 i else 0) = g.2
theorem mCl.same {σ σ' : Nat → Int32} {α α' : Nat → Nat → Int32} {cs : List (Int32 × Int32)} (h : mCl σ α cs) (e : σ' 25 = σ 25) (e1 : α' 15 = α 15) (e2 : α' 16 = α 16) : mCl σ' α' cs := by
  unfold mCl
  rw [e, e1, e2]
  exact h
set_option maxRecDepth 100000 in
set_option maxHeartbeats 4000000 in
theorem c_Md_status {n m : Nat} {h : aH} {σ : Nat → Int32} {ν : Int64} {α : Nat → Nat → Int32} {x : Int32} {cs : List (Int32 × Int32)} (hM : Md h m σ ν α) (hc : mCl σ α cs) : Con M_Md_status 0 0 0 n [.ref m, .int x] h (fun r h' => r = some (.int (if 0 ≤ x ∧ x < nI cs.length then (cs.getD x.toNatClampNeg (0, 0)).1 else -1)) ∧ h' = h) := by
  refine Con.of rfl (Nat.le_of_ble_eq_true rfl) ?_
  refine T_iload_n (pc := 0) d_Md_status_0 rfl ?_
  refine T_if_lt (tgt := 12) (pc := 1) d_Md_status_1 (by decide) (fun q1 => ?_) (fun q1 => ?_)
  · refine T_iconst (v := -1) (pc := 12) d_Md_status_12 rfl ?_
    refine T_goto (tgt := 22) (pc := 13) d_Md_status_13 (by decide) ?_
    refine T_iret (pc := 22) d_Md_status_22 rfl rfl (Nat.le_refl _) ?_
    first
      | (rw [if_neg (fun z => absurd q1 (Int32.not_lt.mpr z.1))]; exact ⟨rfl, rfl⟩)
      | (rw [hc.2.1] at q9; rw [if_neg (fun z => q9 z.2)]; exact ⟨rfl, rfl⟩)
      | (rw [if_pos hf, hcl, hgd, b1]; exact ⟨rfl, rfl⟩)
  · refine T_iload_n (pc := 4) d_Md_status_4 rfl ?_
    refine T_aload_n (pc := 5) d_Md_status_5 rfl ?_
    refine T_get (pc := 6) d_Md_status_6 sF_Md_201_Md hM.1 rfl ?_
    refine T_icmp_lt (tgt := 16) (pc := 9) d_Md_status_9 (by decide) (fun q9 => ?_) (fun q9 => ?_)
    · have hc100 := hc.1
      obtain ⟨i, hi, rfl⟩ : ∃ i : Nat, i < cs.length ∧ x = nI i := by
        rcases pk_ix x (n := cs.length) (by omega) with q | q | q
        · exact absurd q q1
        · first
            | exact absurd q9 (by rw [hc.2.1]; exact Int32.not_lt.mpr q)
            | exact absurd (by rw [hc.2.1]; exact q) q9
        · exact q
      have hcl : (nI i).toNatClampNeg = i := nI_clamp (by omega)
      have hf : 0 ≤ nI i ∧ nI i < nI cs.length := ⟨nI_pos' (by omega), nI_lt hi (by omega)⟩
      obtain ⟨g, hg⟩ : ∃ g, cs[i]? = some g := ⟨_, List.getElem?_eq_getElem hi⟩
      have hgd : cs.getD i (0, 0) = g := by rw [List.getD_eq_getElem?_getD, hg]; rfl
      obtain ⟨b1, b2⟩ := hc.2.2 i g hg
      refine T_aload_n (pc := 16) d_Md_status_16 rfl ?_
      refine T_get (pc := 17) d_Md_status_17 sF_Md_53_Md hM.1 rfl ?_
      refine T_iload_n (pc := 20) d_Md_status_20 rfl ?_
      refine T_iald (N := 100) (pc := 21) d_Md_status_21 (hM.arr 15) (vp_in_nI (by omega) (by decide)) ?_
      refine T_iret (pc := 22) d_Md_status_22 rfl rfl (Nat.le_refl _) ?_
      first
        | (rw [if_neg (fun z => absurd q1 (Int32.not_lt.mpr z.1))]; exact ⟨rfl, rfl⟩)
        | (rw [hc.2.1] at q9; rw [if_neg (fun z => q9 z.2)]; exact ⟨rfl, rfl⟩)
        | (rw [if_pos hf, hcl, hgd, b1]; exact ⟨rfl, rfl⟩)
    · refine T_iconst (v := -1) (pc := 12) d_Md_status_12 rfl ?_
      refine T_goto (tgt := 22) (pc := 13) d_Md_status_13 (by decide) ?_
      refine T_iret (pc := 22) d_Md_status_22 rfl rfl (Nat.le_refl _) ?_
      first
        | (rw [if_neg (fun z => absurd q1 (Int32.not_lt.mpr z.1))]; exact ⟨rfl, rfl⟩)
        | (rw [hc.2.1] at q9; rw [if_neg (fun z => q9 z.2)]; exact ⟨rfl, rfl⟩)
        | (rw [if_pos hf, hcl, hgd, b1]; exact ⟨rfl, rfl⟩)
set_option maxRecDepth 100000 in
set_option maxHeartbeats 4000000 in
theorem c_Md_result {n m : Nat} {h : aH} {σ : Nat → Int32} {ν : Int64} {α : Nat → Nat → Int32} {x : Int32} {cs : List (Int32 × Int32)} (hM : Md h m σ ν α) (hc : mCl σ α cs) : Con M_Md_result 0 0 0 n [.ref m, .int x] h (fun r h' => r = some (.int (if 0 ≤ x ∧ x < nI cs.length then (cs.getD x.toNatClampNeg (0, 0)).2 else 0)) ∧ h' = h) := by
  refine Con.of rfl (Nat.le_of_ble_eq_true rfl) ?_
  refine T_iload_n (pc := 0) d_Md_result_0 rfl ?_
  refine T_if_lt (tgt := 21) (pc := 1) d_Md_result_1 (by decide) (fun q1 => ?_) (fun q1 => ?_)
  · refine T_iconst (v := 0) (pc := 21) d_Md_result_21 rfl ?_
    refine T_goto (tgt := 31) (pc := 22) d_Md_result_22 (by decide) ?_
    refine T_iret (pc := 31) d_Md_result_31 rfl rfl (Nat.le_refl _) ?_
    first
      | (rw [if_neg (fun z => absurd q1 (Int32.not_lt.mpr z.1))]; exact ⟨rfl, rfl⟩)
      | (rw [hc.2.1] at q9; rw [if_neg (fun z => absurd z.2 (Int32.not_lt.mpr q9))]; exact ⟨rfl, rfl⟩)
      | (rw [hcl, b1] at q18; rw [if_pos hf, hcl, hgd, ← b2, if_neg q18]; exact ⟨rfl, rfl⟩)
      | (rw [hcl, b1] at q18; rw [if_pos hf, hcl, hgd, ← b2, if_pos q18]; exact ⟨rfl, rfl⟩)
  · refine T_iload_n (pc := 4) d_Md_result_4 rfl ?_
    refine T_aload_n (pc := 5) d_Md_result_5 rfl ?_
    refine T_get (pc := 6) d_Md_result_6 sF_Md_201_Md hM.1 rfl ?_
    refine T_icmp_ge (tgt := 21) (pc := 9) d_Md_result_9 (by decide) (fun q9 => ?_) (fun q9 => ?_)
    · refine T_iconst (v := 0) (pc := 21) d_Md_result_21 rfl ?_
      refine T_goto (tgt := 31) (pc := 22) d_Md_result_22 (by decide) ?_
      refine T_iret (pc := 31) d_Md_result_31 rfl rfl (Nat.le_refl _) ?_
      first
        | (rw [if_neg (fun z => absurd q1 (Int32.not_lt.mpr z.1))]; exact ⟨rfl, rfl⟩)
        | (rw [hc.2.1] at q9; rw [if_neg (fun z => absurd z.2 (Int32.not_lt.mpr q9))]; exact ⟨rfl, rfl⟩)
        | (rw [hcl, b1] at q18; rw [if_pos hf, hcl, hgd, ← b2, if_neg q18]; exact ⟨rfl, rfl⟩)
        | (rw [hcl, b1] at q18; rw [if_pos hf, hcl, hgd, ← b2, if_pos q18]; exact ⟨rfl, rfl⟩)
    · have hc100 := hc.1
      obtain ⟨i, hi, rfl⟩ : ∃ i : Nat, i < cs.length ∧ x = nI i := by
        rcases pk_ix x (n := cs.length) (by omega) with q | q | q
        · exact absurd q q1
        · first
            | exact absurd q9 (by rw [hc.2.1]; exact Int32.not_lt.mpr q)
            | exact absurd (by rw [hc.2.1]; exact q) q9
        · exact q
      have hcl : (nI i).toNatClampNeg = i := nI_clamp (by omega)
      have hf : 0 ≤ nI i ∧ nI i < nI cs.length := ⟨nI_pos' (by omega), nI_lt hi (by omega)⟩
      obtain ⟨g, hg⟩ : ∃ g, cs[i]? = some g := ⟨_, List.getElem?_eq_getElem hi⟩
      have hgd : cs.getD i (0, 0) = g := by rw [List.getD_eq_getElem?_getD, hg]; rfl
      obtain ⟨b1, b2⟩ := hc.2.2 i g hg
      refine T_aload_n (pc := 12) d_Md_result_12 rfl ?_
      refine T_get (pc := 13) d_Md_result_13 sF_Md_53_Md hM.1 rfl ?_
      refine T_iload_n (pc := 16) d_Md_result_16 rfl ?_
      refine T_iald (N := 100) (pc := 17) d_Md_result_17 (hM.arr 15) (vp_in_nI (by omega) (by decide)) ?_
      refine T_if_eq (tgt := 25) (pc := 18) d_Md_result_18 (by decide) (fun q18 => ?_) (fun q18 => ?_)
      · refine T_aload_n (pc := 25) d_Md_result_25 rfl ?_
        refine T_get (pc := 26) d_Md_result_26 sF_Md_56_Md hM.1 rfl ?_
        refine T_iload_n (pc := 29) d_Md_result_29 rfl ?_
        refine T_iald (N := 100) (pc := 30) d_Md_result_30 (hM.arr 16) (vp_in_nI (by omega) (by decide)) ?_
        refine T_iret (pc := 31) d_Md_result_31 rfl rfl (Nat.le_refl _) ?_
        first
          | (rw [if_neg (fun z => absurd q1 (Int32.not_lt.mpr z.1))]; exact ⟨rfl, rfl⟩)
          | (rw [hc.2.1] at q9; rw [if_neg (fun z => absurd z.2 (Int32.not_lt.mpr q9))]; exact ⟨rfl, rfl⟩)
          | (rw [hcl, b1] at q18; rw [if_pos hf, hcl, hgd, ← b2, if_neg q18]; exact ⟨rfl, rfl⟩)
          | (rw [hcl, b1] at q18; rw [if_pos hf, hcl, hgd, ← b2, if_pos q18]; exact ⟨rfl, rfl⟩)
      · refine T_iconst (v := 0) (pc := 21) d_Md_result_21 rfl ?_
        refine T_goto (tgt := 31) (pc := 22) d_Md_result_22 (by decide) ?_
        refine T_iret (pc := 31) d_Md_result_31 rfl rfl (Nat.le_refl _) ?_
        first
          | (rw [if_neg (fun z => absurd q1 (Int32.not_lt.mpr z.1))]; exact ⟨rfl, rfl⟩)
          | (rw [hc.2.1] at q9; rw [if_neg (fun z => absurd z.2 (Int32.not_lt.mpr q9))]; exact ⟨rfl, rfl⟩)
          | (rw [hcl, b1] at q18; rw [if_pos hf, hcl, hgd, ← b2, if_neg q18]; exact ⟨rfl, rfl⟩)
          | (rw [hcl, b1] at q18; rw [if_pos hf, hcl, hgd, ← b2, if_pos q18]; exact ⟨rfl, rfl⟩)
set_option maxRecDepth 100000 in
set_option maxHeartbeats 4000000 in
theorem c_Md_add {n m : Nat} {h : aH} {σ : Nat → Int32} {ν : Int64} {α : Nat → Nat → Int32} {b : Int32} {db : List Int32} (hM : Md h m σ ν α) (hd : mDb σ α db) : Con M_Md_add 0 0 0 n [.ref m, .int b] h (mQ h m (fun r σ' ν' α' => r = some (.int (addF db b).1) ∧ ν' = ν ∧ mDb σ' α' (addF db b).2 ∧ sX [18] σ σ' ∧ aX [11] α α')) := by
  refine Con.of rfl (Nat.le_of_ble_eq_true rfl) ?_
  refine T_iload_n (pc := 0) d_Md_add_0 rfl ?_
  refine T_if_lt (tgt := 21) (pc := 1) d_Md_add_1 (by decide) (fun q1 => ?_) (fun q1 => ?_)
  · refine T_iconst (v := 0) (pc := 21) d_Md_add_21 rfl ?_
    refine T_zret (pc := 22) d_Md_add_22 rfl (by decide) rfl (Nat.le_refl _) ?_
    first
      | (have hA : addF db b = (0, db) := by rw [addF, if_pos (Or.inl q1)]
         rw [hA]
         exact ⟨_, _, _, hM, mdO.rf, rfl, rfl, hd, sX.rf, aX.rf⟩)
      | (have hA : addF db b = (0, db) := by rw [addF, if_pos (Or.inr q8)]
         rw [hA]
         exact ⟨_, _, _, hM, mdO.rf, rfl, rfl, hd, sX.rf, aX.rf⟩)
      | (have h18 : σ 18 = nI 200 := q18
         have hd200 := hd.1
         rw [hd.2.1] at h18
         have h200 := (nI_eq (a := db.length) (b := 200) (by omega) (by decide)).mp h18
         have hA : addF db b = (0, db) := by rw [addF, if_neg (fun z => z.elim q1 q8), if_neg (by omega)]
         rw [hA]
         exact ⟨_, _, _, hM, mdO.rf, rfl, rfl, hd, sX.rf, aX.rf⟩)
      | (have hA : addF db b = (1, db ++ [b]) := by rw [addF, if_neg (fun z => z.elim q1 q8), if_pos hlt]
         rw [hA]
         refine ⟨_, _, _, hM, mdO.rf, rfl, rfl, ⟨by simp; omega, by rw [pk_us, hd.2.1, nI_1]; simp, ?_⟩, sX.rf.up (by decide), aX.rf.up (by decide)⟩
         rw [va_up_self]
         exact hd.2.2.app (by rw [hd.2.1, nI_clamp (by omega), Nat.zero_add]))
  · refine T_iload_n (pc := 4) d_Md_add_4 rfl ?_
    refine T_sipush (v := 255) (pc := 5) d_Md_add_5 rfl ?_
    refine T_icmp_gt (tgt := 21) (pc := 8) d_Md_add_8 (by decide) (fun q8 => ?_) (fun q8 => ?_)
    · refine T_iconst (v := 0) (pc := 21) d_Md_add_21 rfl ?_
      refine T_zret (pc := 22) d_Md_add_22 rfl (by decide) rfl (Nat.le_refl _) ?_
      first
        | (have hA : addF db b = (0, db) := by rw [addF, if_pos (Or.inl q1)]
           rw [hA]
           exact ⟨_, _, _, hM, mdO.rf, rfl, rfl, hd, sX.rf, aX.rf⟩)
        | (have hA : addF db b = (0, db) := by rw [addF, if_pos (Or.inr q8)]
           rw [hA]
           exact ⟨_, _, _, hM, mdO.rf, rfl, rfl, hd, sX.rf, aX.rf⟩)
        | (have h18 : σ 18 = nI 200 := q18
           have hd200 := hd.1
           rw [hd.2.1] at h18
           have h200 := (nI_eq (a := db.length) (b := 200) (by omega) (by decide)).mp h18
           have hA : addF db b = (0, db) := by rw [addF, if_neg (fun z => z.elim q1 q8), if_neg (by omega)]
           rw [hA]
           exact ⟨_, _, _, hM, mdO.rf, rfl, rfl, hd, sX.rf, aX.rf⟩)
        | (have hA : addF db b = (1, db ++ [b]) := by rw [addF, if_neg (fun z => z.elim q1 q8), if_pos hlt]
           rw [hA]
           refine ⟨_, _, _, hM, mdO.rf, rfl, rfl, ⟨by simp; omega, by rw [pk_us, hd.2.1, nI_1]; simp, ?_⟩, sX.rf.up (by decide), aX.rf.up (by decide)⟩
           rw [va_up_self]
           exact hd.2.2.app (by rw [hd.2.1, nI_clamp (by omega), Nat.zero_add]))
    · refine T_aload_n (pc := 11) d_Md_add_11 rfl ?_
      refine T_get (pc := 12) d_Md_add_12 sF_Md_222_Md hM.1 rfl ?_
      refine T_sipush (v := 200) (pc := 15) d_Md_add_15 rfl ?_
      refine T_icmp_ne (tgt := 23) (pc := 18) d_Md_add_18 (by decide) (fun q18 => ?_) (fun q18 => ?_)
      · have hd200 := hd.1
        have hlt : db.length < 200 := by
          rcases Nat.lt_or_ge db.length 200 with z | z
          · exact z
          · exact absurd (by rw [hd.2.1, show db.length = 200 by omega]; rfl) q18
        refine T_aload_n (pc := 23) d_Md_add_23 rfl ?_
        refine T_get (pc := 24) d_Md_add_24 sF_Md_41_Md hM.1 rfl ?_
        refine T_aload_n (pc := 27) d_Md_add_27 rfl ?_
        refine T_get (pc := 28) d_Md_add_28 sF_Md_222_Md hM.1 rfl ?_
        refine T_iload_n (pc := 31) d_Md_add_31 rfl ?_
        refine T_iast (N := 200) (pc := 32) d_Md_add_32 (by omega) (hM.arr 11) (by rw [hd.2.1]; exact vp_in_nI hlt (by decide)) (T_up (fun h32x1 g32x1 o32x1 => ?_))
        have M32x1 := hM.ast 11 g32x1 o32x1
        have O32x1 := mdO.o (j := 11) mdO.rf o32x1 (by decide)
        refine T_aload_n (pc := 33) d_Md_add_33 rfl ?_
        refine T_dup (pc := 34) d_Md_add_34 rfl ?_
        refine T_get (pc := 35) d_Md_add_35 sF_Md_222_Md M32x1.1 rfl ?_
        refine T_iconst (v := 1) (pc := 38) d_Md_add_38 rfl ?_
        refine T_iadd (pc := 39) d_Md_add_39 ?_
        refine T_put (pc := 40) d_Md_add_40 sF_Md_222_Md M32x1.1 (Nat.le_of_ble_eq_true rfl) (a_fit_i _) (T_up (fun h40x2 g40x2 o40x2 => ?_))
        have M40x2 := M32x1.put 18 _ g40x2 o40x2 rfl
        have O40x2 := mdO.o (j := 0) O32x1 o40x2 (by decide)
        refine T_iconst (v := 1) (pc := 43) d_Md_add_43 rfl ?_
        refine T_zret (pc := 44) d_Md_add_44 rfl (by decide) rfl (Nat.le_refl _) ?_
        first
          | (have hA : addF db b = (0, db) := by rw [addF, if_pos (Or.inl q1)]
             rw [hA]
             exact ⟨_, _, _, hM, mdO.rf, rfl, rfl, hd, sX.rf, aX.rf⟩)
          | (have hA : addF db b = (0, db) := by rw [addF, if_pos (Or.inr q8)]
             rw [hA]
             exact ⟨_, _, _, hM, mdO.rf, rfl, rfl, hd, sX.rf, aX.rf⟩)
          | (have h18 : σ 18 = nI 200 := q18
             have hd200 := hd.1
             rw [hd.2.1] at h18
             have h200 := (nI_eq (a := db.length) (b := 200) (by omega) (by decide)).mp h18
             have hA : addF db b = (0, db) := by rw [addF, if_neg (fun z => z.elim q1 q8), if_neg (by omega)]
             rw [hA]
             exact ⟨_, _, _, hM, mdO.rf, rfl, rfl, hd, sX.rf, aX.rf⟩)
          | (have hA : addF db b = (1, db ++ [b]) := by rw [addF, if_neg (fun z => z.elim q1 q8), if_pos hlt]
             rw [hA]
             refine ⟨_, _, _, M40x2, O40x2, rfl, rfl, ⟨by simp; omega, by rw [pk_us, hd.2.1, nI_1]; simp, ?_⟩, sX.rf.up (by decide), aX.rf.up (by decide)⟩
             rw [va_up_self]
             exact hd.2.2.app (by rw [hd.2.1, nI_clamp (by omega), Nat.zero_add]))
      · refine T_iconst (v := 0) (pc := 21) d_Md_add_21 rfl ?_
        refine T_zret (pc := 22) d_Md_add_22 rfl (by decide) rfl (Nat.le_refl _) ?_
        first
          | (have hA : addF db b = (0, db) := by rw [addF, if_pos (Or.inl q1)]
             rw [hA]
             exact ⟨_, _, _, hM, mdO.rf, rfl, rfl, hd, sX.rf, aX.rf⟩)
          | (have hA : addF db b = (0, db) := by rw [addF, if_pos (Or.inr q8)]
             rw [hA]
             exact ⟨_, _, _, hM, mdO.rf, rfl, rfl, hd, sX.rf, aX.rf⟩)
          | (have h18 : σ 18 = nI 200 := q18
             have hd200 := hd.1
             rw [hd.2.1] at h18
             have h200 := (nI_eq (a := db.length) (b := 200) (by omega) (by decide)).mp h18
             have hA : addF db b = (0, db) := by rw [addF, if_neg (fun z => z.elim q1 q8), if_neg (by omega)]
             rw [hA]
             exact ⟨_, _, _, hM, mdO.rf, rfl, rfl, hd, sX.rf, aX.rf⟩)
          | (have hA : addF db b = (1, db ++ [b]) := by rw [addF, if_neg (fun z => z.elim q1 q8), if_pos hlt]
             rw [hA]
             refine ⟨_, _, _, hM, mdO.rf, rfl, rfl, ⟨by simp; omega, by rw [pk_us, hd.2.1, nI_1]; simp, ?_⟩, sX.rf.up (by decide), aX.rf.up (by decide)⟩
             rw [va_up_self]
             exact hd.2.2.app (by rw [hd.2.1, nI_clamp (by omega), Nat.zero_add]))
