/-! OnceWireModel.call. -/
theorem menc_len {σ : Nat → Int32} {α : Nat → Nat → Int32} {r : Nat} {wf : Bool} {ns : List Sf} {vs : List (List Int32)} (hs : mSc σ α ns) (hv : mVa α r ns vs) : (enc wf ns vs).length ≤ 112 := by
  have h4 := hs.1
  have h30 : ∀ t, t ∈ ns → t.1 ≤ 30 := fun t ht => by
    obtain ⟨i, hi⟩ := List.mem_iff_getElem?.mp ht
    exact (hs.2.2 i t hi).2.2.2.2.1
  have hw : ∀ w, w ∈ vs → w.length ≤ 4 := fun w hw => by
    obtain ⟨i, hi⟩ := List.mem_iff_getElem?.mp hw
    have hl := (List.getElem?_eq_some_iff.mp hi).1
    have e := hv.1
    exact (hv.2 i ns[i] w (List.getElem?_eq_getElem (by omega)) hi).2.1
  unfold enc
  split
  · have := encW_len ns vs hw
    omega
  · have := encT_len ns vs h30 hw
    omega
theorem mreq_len {σ : Nat → Int32} {α : Nat → Nat → Int32} {r : Nat} {wf : Bool} {ns : List Sf} {vs : List (List Int32)} (hs : mSc σ α ns) (hv : mVa α r ns vs) (xid pr : Int32) : (reqR wf ns vs xid pr).length ≤ 124 ∧ (reqB wf ns vs xid pr).length ≤ 156 := by
  have h1 := menc_len (wf := wf) hs hv
  have h2 : (reqR wf ns vs xid pr).length ≤ 124 := by
    unfold reqR
    simp [wby_len]
    omega
  refine ⟨h2, ?_⟩
  have h3 := wrapL_len (reqR wf ns vs xid pr).length (reqR wf ns vs xid pr)
  show (wrapL (reqR wf ns vs xid pr).length (reqR wf ns vs xid pr)).length ≤ 156
  omega
theorem mPd.free {α : Nat → Nat → Int32} {cs : List (Int32 × Int32)} {ps : List Pd} {sl : List Nat} (h : mPd α cs ps sl) (h100 : cs.length ≤ 100) {s : Nat} (hs : s < 8) (he : α 20 s = -1) : s ∉ sl ∧ ps.length < 8 := by
  obtain ⟨a1, ⟨b1, b2, b3⟩, c1, d1⟩ := id h
  have hno : s ∉ sl := fun hm => by
    obtain ⟨k, hk⟩ := List.mem_iff_getElem?.mp hm
    have hl := (List.getElem?_eq_some_iff.mp hk).1
    obtain ⟨g, hg⟩ : ∃ g, ps[k]? = some g := ⟨_, List.getElem?_eq_getElem (by omega)⟩
    obtain ⟨j, c, hj, _, e, _⟩ := h.at h100 hg
    have h9 := (d1 k g s hg hk).1
    rw [he, e] at h9
    exact absurd (show nI j < 0 by rw [← h9]; decide) (nI_pos (by omega))
  refine ⟨hno, ?_⟩
  have := nd_sub (s :: sl) (List.range 8) (List.nodup_cons.mpr ⟨hno, b2⟩) (fun x hx => by
    rcases List.mem_cons.mp hx with z | z
    · rw [z]
      exact List.mem_range.mpr hs
    · exact List.mem_range.mpr (b3 x z))
  simp at this
  omega
theorem mPd.full {α : Nat → Nat → Int32} {cs : List (Int32 × Int32)} {ps : List Pd} {sl : List Nat} (h : mPd α cs ps sl) (he : ∀ s, s < 8 → α 20 s ≠ -1) : 8 ≤ ps.length := by
  obtain ⟨a1, ⟨b1, b2, b3⟩, c1, d1⟩ := id h
  have := nd_sub (List.range 8) sl List.nodup_range (fun x hx => by
    have hx8 := List.mem_range.mp hx
    by_cases z : x ∈ sl
    · exact z
    · exact absurd (c1 x hx8 z) (he x hx8))
  simp at this
  omega
theorem mPd.add {α α' : Nat → Nat → Int32} {cs : List (Int32 × Int32)} {ps : List Pd} {sl : List Nat} (h : mPd α cs ps sl) (h100 : cs.length < 100) {s : Nat} (hs : s < 8) (hsl : s ∉ sl) {B : List Int32} (hB : B.length ≤ 160) (e20 : α' 20 = upd (α 20) s (nI cs.length)) (e19 : α' 19 = upd (α 19) s (nI B.length)) (e17 : α' 17 = upd (α 17) cs.length 0) (r18 : Rw (α' 18) (160 * s) B) (o18 : ∀ q, q < 160 * s ∨ 160 * s + B.length ≤ q → α' 18 q = α 18 q) : mPd α' (cs ++ [(3, 0)]) (ps ++ [(nI cs.length, 0, B)]) (sl ++ [s]) := by
  obtain ⟨a1, ⟨b1, b2, b3⟩, c1, d1⟩ := id h
  refine ⟨?_, ⟨by simp [b1], ?_, fun q hq => ?_⟩, fun q hq hq2 => ?_, fun i g s' hg hs' => ?_⟩
  · rw [pnd_app, List.map_append, List.map_append, a1, Nat.zero_add]
    rfl
  · refine List.nodup_append.mpr ⟨b2, by simp, fun x hx y hy => ?_⟩
    rw [List.mem_singleton.mp hy]
    exact fun z => hsl (z ▸ hx)
  · rcases List.mem_append.mp hq with z | z
    · exact b3 q z
    · rw [List.mem_singleton.mp z]
      exact hs
  · have z1 : q ∉ sl := fun z => hq2 (List.mem_append.mpr (Or.inl z))
    have z2 : q ≠ s := fun z => hq2 (List.mem_append.mpr (Or.inr (List.mem_singleton.mpr z)))
    rw [e20, pk_un z2]
    exact c1 q hq z1
  · rcases Nat.lt_or_ge i ps.length with z | z
    · rw [List.getElem?_append_left z] at hg
      rw [List.getElem?_append_left (by omega)] at hs'
      obtain ⟨z1, z2, z3, z4, z5, z6⟩ := d1 i g s' hg hs'
      have hm : s' ∈ sl := List.mem_of_getElem? hs'
      have hne : s' ≠ s := fun z => hsl (z ▸ hm)
      have h8 := b3 s' hm
      obtain ⟨j, c, hj, _, e, _⟩ := h.at (by omega) hg
      refine ⟨by rw [e20, pk_un hne]; exact z1, by rw [e19, pk_un hne]; exact z2, z3, z4.same (fun q hq => o18 _ (by omega)), z5, ?_⟩
      rw [e17, e, nI_clamp (by omega), pk_un (by omega)]
      rw [e, nI_clamp (by omega)] at z6
      exact z6
    · have hi : i = ps.length := by
        have := (List.getElem?_eq_some_iff.mp hg).1
        simp at this
        omega
      subst hi
      rw [List.getElem?_append_right (Nat.le_refl _), Nat.sub_self] at hg
      rw [← b1, List.getElem?_append_right (Nat.le_refl _), Nat.sub_self] at hs'
      have hg2 : (nI cs.length, (0 : Int32), B) = g := by simpa using hg
      have hs2 : s = s' := by simpa using hs'
      subst hg2
      subst hs2
      refine ⟨by rw [e20, pk_us], by rw [e19, pk_us], hB, r18, ⟨0, by decide, rfl⟩, ?_⟩
      show α' 17 (nI cs.length).toNatClampNeg = 0
      rw [e17, nI_clamp (by omega), pk_us]
set_option maxRecDepth 100000 in
set_option maxHeartbeats 4000000 in
theorem c_Md_call_go {n m : Nat} {h : aH} {σ : Nat → Int32} {ν : Int64} {α : Nat → Nat → Int32} {ns : List Sf} {vs : List (List Int32)} {wf : Bool} {cs : List (Int32 × Int32)} {ps : List Pd} {ms : List Mg} {sl : List Nat} {pr : Int32} {s : Nat} (hM : Md h m σ ν α) (hs : mSc σ α ns) (hv : mVa α 0 ns vs) (ew : σ 0 = bI wf) (hok : vOk ns vs) (hc : mCl σ α cs) (hp : mPd α cs ps sl) (hn : mNe σ α ms) (hs8 : s < 8) (hsl : s ∉ sl) (h100 : cs.length < 100) {Q : aQ} (hQ : ∀ h' σ' ν' α', Md h' m σ' ν' α' → mdO h h' m → mCl σ' α' (cs ++ [(3, 0)]) → mPd α' (cs ++ [(3, 0)]) (ps ++ [(nI cs.length, 0, (reqB wf ns vs (nI cs.length) pr))]) (sl ++ [s]) → mNe σ' α' (psh ms ((reqB wf ns vs (nI cs.length) pr), true)) → sX [8, 10, 13, 25] σ σ' → aX [6, 7, 8, 9, 10, 15, 17, 18, 19, 20] α α' → Q (some (.int (nI cs.length))) h') : Tri M_Md_call (a_rm 4 0 0) (a_Z 0 0 Q) 38 [(2, .int (nI s)), (0, .ref m), (1, .int pr)] [] n h 0 0 := by
  have e25 : σ 25 = nI cs.length := hc.2.1
  obtain ⟨hlR, hlB⟩ := mreq_len (wf := wf) hs hv (nI cs.length) pr
  refine T_aload_n (pc := 38) d_Md_call_38 rfl ?_
  refine T_iconst (v := 0) (pc := 39) d_Md_call_39 rfl ?_
  refine T_put (pc := 40) d_Md_call_40 sF_Md_87_Md hM.1 (Nat.le_of_ble_eq_true rfl) (a_fit_i _) (T_up (fun h40x1 g40x1 o40x1 => ?_))
  have M40x1 := hM.put 8 _ g40x1 o40x1 rfl
  have O40x1 := mdO.o (j := 0) mdO.rf o40x1 (by decide)
  refine T_aload_n (pc := 43) d_Md_call_43 rfl ?_
  refine T_aload_n (pc := 44) d_Md_call_44 rfl ?_
  refine T_get (pc := 45) d_Md_call_45 sF_Md_201_Md M40x1.1 rfl ?_
  refine T_top (show (upd σ 8 0) 25 = nI cs.length by rw [pk_un (by decide)]; exact e25) ?_
  refine T_ivV (pc := 48) d_Md_call_48 sI_Md_109 (c_Md_writeWord (l := []) M40x1 ⟨by simp, pk_us, Rw.nil⟩ (by simp [wby_len])) M40x1.1 rfl rfl ⟨(Nat.le_of_ble_eq_true rfl), (Nat.le_of_ble_eq_true rfl)⟩ ⟨(Nat.le_of_ble_eq_true rfl), (Nat.le_of_ble_eq_true rfl)⟩ (Nat.le_of_ble_eq_true rfl) (fun r1 h1 q1 => ?_)
  obtain ⟨σ1, ν1, α1, M1, O1, rfl, e1, hr1, s1, a1⟩ := q1
  refine T_aload_n (pc := 51) d_Md_call_51 rfl ?_
  refine T_iconst (v := 0) (pc := 52) d_Md_call_52 rfl ?_
  refine T_ivV (pc := 53) d_Md_call_53 sI_Md_109 (c_Md_writeWord (l := _) M1 hr1 (by simp [wby_len])) M1.1 rfl rfl ⟨(Nat.le_of_ble_eq_true rfl), (Nat.le_of_ble_eq_true rfl)⟩ ⟨(Nat.le_of_ble_eq_true rfl), (Nat.le_of_ble_eq_true rfl)⟩ (Nat.le_of_ble_eq_true rfl) (fun r2 h2 q2 => ?_)
  obtain ⟨σ2, ν2, α2, M2, O2, rfl, e2, hr2, s2, a2⟩ := q2
  refine T_aload_n (pc := 56) d_Md_call_56 rfl ?_
  refine T_iload_n (pc := 57) d_Md_call_57 rfl ?_
  refine T_ivV (pc := 58) d_Md_call_58 sI_Md_109 (c_Md_writeWord (l := _) M2 hr2 (by simp [wby_len])) M2.1 rfl rfl ⟨(Nat.le_of_ble_eq_true rfl), (Nat.le_of_ble_eq_true rfl)⟩ ⟨(Nat.le_of_ble_eq_true rfl), (Nat.le_of_ble_eq_true rfl)⟩ (Nat.le_of_ble_eq_true rfl) (fun r3 h3 q3 => ?_)
  obtain ⟨σ3, ν3, α3, M3, O3, rfl, e3, hr3, s3, a3⟩ := q3
  refine T_aload_n (pc := 61) d_Md_call_61 rfl ?_
  have S3 : sX [8] σ σ3 := (((sX.rf.up (by decide)).tr s1).tr s2).tr s3
  have A3 : aX [6] α α3 := (a1.tr a2).tr a3
  refine T_ivV (pc := 62) d_Md_call_62 sI_Md_207 (c_Md_writeDraft (wf := wf) (vs := vs) M3 (hs.same (S3 1 (by decide)) (A3 1 (by decide)) (A3 2 (by decide)) (A3 3 (by decide))) (hv.same (A3 4 (by decide)) (A3 5 (by decide))) ((S3 0 (by decide)).trans ew) hok hr3 (by simp [wby_len])) M3.1 rfl rfl ⟨(Nat.le_of_ble_eq_true rfl), (Nat.le_of_ble_eq_true rfl)⟩ ⟨(Nat.le_of_ble_eq_true rfl), (Nat.le_of_ble_eq_true rfl)⟩ (Nat.le_of_ble_eq_true rfl) (fun r4 h4 q4 => ?_)
  obtain ⟨σ4, ν4, α4, M4, O4, rfl, e4, hr4, s4, a4⟩ := q4
  have hr4' : mRe σ4 α4 (reqR wf ns vs (nI cs.length) pr) := by
    have : reqR wf ns vs (nI cs.length) pr = ((([] ++ wby (nI cs.length)) ++ wby 0) ++ wby pr) ++ enc wf ns vs := by unfold reqR; simp
    rw [this]
    exact hr4
  refine T_aload_n (pc := 65) d_Md_call_65 rfl ?_
  refine T_ivV (pc := 66) d_Md_call_66 sI_Md_169 (c_Md_fragment (M := []) M4 hr4' (Nat.le_trans hlB (by decide))) M4.1 rfl rfl ⟨(Nat.le_of_ble_eq_true rfl), (Nat.le_of_ble_eq_true rfl)⟩ ⟨(Nat.le_of_ble_eq_true rfl), (Nat.le_of_ble_eq_true rfl)⟩ (Nat.le_of_ble_eq_true rfl) (fun r5 h5 q5 => ?_)
  obtain ⟨σ5, ν5, α5, M5, O5, rfl, e5, hm5, s5, a5⟩ := q5
  have S5 : sX [8, 10] σ σ5 := ((S3.tr s4).mono (by decide)).tr (s5.mono (by decide))
  have A5 : aX [6, 7] α α5 := ((A3.tr a4).mono (by decide)).tr (a5.mono (by decide))
  have hm5' : mMe σ5 α5 (reqB wf ns vs (nI cs.length) pr) := hm5
  have e255 : σ5 25 = nI cs.length := (S5 25 (by decide)).trans e25
  refine T_iconst (v := 0) (pc := 69) d_Md_call_69 rfl ?_
  refine T_istore_n (pc := 70) d_Md_call_70 rfl (Nat.le_of_ble_eq_true rfl) rfl ?_
  refine c_Md_call_cp (L := s) (l := (reqB wf ns vs (nI cs.length) pr)) hm5'.2.1 (by omega) (by omega) (reqB wf ns vs (nI cs.length) pr) 0 _ α5 List.drop_zero (Nat.zero_le _) M5 hm5'.2.2 Rw.nil (fun h6 α6 M6 O6 a6 r6 o6 => ?_)
  have hm6 : mMe σ5 α6 (reqB wf ns vs (nI cs.length) pr) := hm5'.same rfl (a6 7 (by decide))
  refine T_aload_n (pc := 103) d_Md_call_103 rfl ?_
  refine T_get (pc := 104) d_Md_call_104 sF_Md_65_Md M6.1 rfl ?_
  refine T_iload_n (pc := 107) d_Md_call_107 rfl ?_
  refine T_aload_n (pc := 108) d_Md_call_108 rfl ?_
  refine T_get (pc := 109) d_Md_call_109 sF_Md_116_Md M6.1 rfl ?_
  refine T_top (hm5'.2.1) ?_
  refine T_iast (N := 8) (pc := 112) d_Md_call_112 (by omega) (M6.arr 19) (vp_in_nI hs8 (by decide)) (T_up (fun h112x2 g112x2 o112x2 => ?_))
  have M112x2 := M6.ast 19 g112x2 o112x2
  have O112x2 := mdO.o (j := 19) (mdO.tr (mdO.tr (mdO.tr (mdO.tr (mdO.tr (mdO.tr O40x1 O1) O2) O3) O4) O5) O6) o112x2 (by decide)
  refine T_aload_n (pc := 113) d_Md_call_113 rfl ?_
  refine T_get (pc := 114) d_Md_call_114 sF_Md_68_Md M112x2.1 rfl ?_
  refine T_iload_n (pc := 117) d_Md_call_117 rfl ?_
  refine T_aload_n (pc := 118) d_Md_call_118 rfl ?_
  refine T_get (pc := 119) d_Md_call_119 sF_Md_201_Md M112x2.1 rfl ?_
  refine T_top (e255) ?_
  refine T_iast (N := 8) (pc := 122) d_Md_call_122 (by omega) (M112x2.arr 20) (vp_in_nI hs8 (by decide)) (T_up (fun h122x3 g122x3 o122x3 => ?_))
  have M122x3 := M112x2.ast 20 g122x3 o122x3
  have O122x3 := mdO.o (j := 20) O112x2 o122x3 (by decide)
  refine T_aload_n (pc := 123) d_Md_call_123 rfl ?_
  refine T_get (pc := 124) d_Md_call_124 sF_Md_53_Md M122x3.1 rfl ?_
  refine T_aload_n (pc := 127) d_Md_call_127 rfl ?_
  refine T_get (pc := 128) d_Md_call_128 sF_Md_201_Md M122x3.1 rfl ?_
  refine T_top (e255) ?_
  refine T_iconst (v := 3) (pc := 131) d_Md_call_131 rfl ?_
  refine T_iast (N := 100) (pc := 132) d_Md_call_132 (by omega) (M122x3.arr 15) (vp_in_nI h100 (by decide)) (T_up (fun h132x4 g132x4 o132x4 => ?_))
  have M132x4 := M122x3.ast 15 g132x4 o132x4
  have O132x4 := mdO.o (j := 15) O122x3 o132x4 (by decide)
  refine T_aload_n (pc := 133) d_Md_call_133 rfl ?_
  refine T_get (pc := 134) d_Md_call_134 sF_Md_59_Md M132x4.1 rfl ?_
  refine T_aload_n (pc := 137) d_Md_call_137 rfl ?_
  refine T_get (pc := 138) d_Md_call_138 sF_Md_201_Md M132x4.1 rfl ?_
  refine T_top (e255) ?_
  refine T_iconst (v := 0) (pc := 141) d_Md_call_141 rfl ?_
  refine T_iast (N := 100) (pc := 142) d_Md_call_142 (by omega) (M132x4.arr 17) (vp_in_nI h100 (by decide)) (T_up (fun h142x5 g142x5 o142x5 => ?_))
  have M142x5 := M132x4.ast 17 g142x5 o142x5
  have O142x5 := mdO.o (j := 17) O132x4 o142x5 (by decide)
  refine T_aload_n (pc := 143) d_Md_call_143 rfl ?_
  refine T_iconst (v := 0) (pc := 144) d_Md_call_144 rfl ?_
  obtain ⟨α7, M7, E7⟩ : ∃ α7, Md _ m σ5 _ α7 ∧ α7 = va_up (va_up (va_up (va_up α6 19 (upd (α6 19) s (nI (reqB wf ns vs (nI cs.length) pr).length))) 20 (upd (α6 20) s (nI cs.length))) 15 (upd (α6 15) cs.length 3)) 17 (upd (α6 17) cs.length 0) := by
    refine ⟨_, M142x5, ?_⟩
    rw [nI_clamp (show s < 2 ^ 31 by omega), nI_clamp (show cs.length < 2 ^ 31 by omega)]
    rfl
  have E15 : α7 15 = upd (α 15) cs.length 3 := by rw [E7, va_up_ne _ _ (by decide), va_up_self, a6 15 (by decide), A5 15 (by decide)]
  have E17 : α7 17 = upd (α 17) cs.length 0 := by rw [E7, va_up_self, a6 17 (by decide), A5 17 (by decide)]
  have E19 : α7 19 = upd (α 19) s (nI (reqB wf ns vs (nI cs.length) pr).length) := by rw [E7, va_up_ne _ _ (by decide), va_up_ne _ _ (by decide), va_up_ne _ _ (by decide), va_up_self, a6 19 (by decide), A5 19 (by decide)]
  have E20 : α7 20 = upd (α 20) s (nI cs.length) := by rw [E7, va_up_ne _ _ (by decide), va_up_ne _ _ (by decide), va_up_self, a6 20 (by decide), A5 20 (by decide)]
  have A7 : ∀ j, j ∉ [19, 20, 15, 17] → α7 j = α6 j := fun j hj => by
    simp at hj
    rw [E7, va_up_ne _ _ (by omega), va_up_ne _ _ (by omega), va_up_ne _ _ (by omega), va_up_ne _ _ (by omega)]
  refine T_ivV (pc := 145) d_Md_call_145 sI_Md_129 (c_Md_send (b := true) M7 (hm6.same rfl (A7 7 (by decide))) (hn.same (S5 13 (by decide)) ((A7 8 (by decide)).trans ((a6 8 (by decide)).trans (A5 8 (by decide)))) ((A7 9 (by decide)).trans ((a6 9 (by decide)).trans (A5 9 (by decide)))) ((A7 10 (by decide)).trans ((a6 10 (by decide)).trans (A5 10 (by decide))))) (Nat.le_trans hlB (by decide))) M7.1 rfl rfl ⟨(Nat.le_of_ble_eq_true rfl), (Nat.le_of_ble_eq_true rfl)⟩ ⟨(Nat.le_of_ble_eq_true rfl), (Nat.le_of_ble_eq_true rfl)⟩ (Nat.le_of_ble_eq_true rfl) (fun r8 h8 q8 => ?_)
  obtain ⟨σ8, ν8, α8, M8, O8, rfl, e8, hn8, s8, a8⟩ := q8
  have e258 : σ8 25 = nI cs.length := (s8 25 (by decide)).trans e255
  refine T_aload_n (pc := 148) d_Md_call_148 rfl ?_
  refine T_dup (pc := 149) d_Md_call_149 rfl ?_
  refine T_get (pc := 150) d_Md_call_150 sF_Md_201_Md M8.1 rfl ?_
  refine T_iconst (v := 1) (pc := 153) d_Md_call_153 rfl ?_
  refine T_iadd (pc := 154) d_Md_call_154 ?_
  refine T_top (show σ8 25 + 1 = nI (cs.length + 1) by rw [e258]; exact nI_add _ 1) ?_
  refine T_put (pc := 155) d_Md_call_155 sF_Md_201_Md M8.1 (Nat.le_of_ble_eq_true rfl) (a_fit_i _) (T_up (fun h155x6 g155x6 o155x6 => ?_))
  have M155x6 := M8.put 25 _ g155x6 o155x6 rfl
  have O155x6 := mdO.o (j := 0) (mdO.tr O142x5 O8) o155x6 (by decide)
  refine T_aload_n (pc := 158) d_Md_call_158 rfl ?_
  refine T_get (pc := 159) d_Md_call_159 sF_Md_201_Md M155x6.1 rfl ?_
  refine T_iconst (v := 1) (pc := 162) d_Md_call_162 rfl ?_
  refine T_isub (pc := 163) d_Md_call_163 ?_
  refine T_top (show (upd σ8 25 (nI (cs.length + 1))) 25 - 1 = nI cs.length by rw [pk_us]; exact nI_pred _) ?_
  refine T_iret (pc := 164) d_Md_call_164 rfl rfl (Nat.le_refl _) ?_
  have A9 : ∀ j, j ∉ [6, 7, 8, 9, 10, 15, 17, 18, 19, 20] → α8 j = α j := fun j hj => by
    simp at hj
    rw [a8 j (by simp; omega), A7 j (by simp; omega), a6 j (by simp; omega), A5 j (by simp; omega)]
  refine hQ _ _ _ _ M155x6 O155x6 ⟨by simp; omega, by rw [pk_us, List.length_append]; rfl, fun i g hg => ?_⟩ (hp.add h100 hs8 hsl (by omega) ((a8 20 (by decide)).trans E20) ((a8 19 (by decide)).trans E19) ((a8 17 (by decide)).trans E17) (by rw [a8 18 (by decide), A7 18 (by decide)]; exact r6) (fun q hq => by rw [a8 18 (by decide), A7 18 (by decide), o6 q hq, A5 18 (by decide)])) (hn8.same (pk_un (by decide)) rfl rfl rfl) (((S5.mono (by decide)).tr (s8.mono (by decide))).up (by decide)) A9
  rw [a8 15 (by decide), a8 16 (by decide), E15, A7 16 (by decide), a6 16 (by decide), A5 16 (by decide)]
  rcases Nat.lt_or_ge i cs.length with z | z
  · rw [List.getElem?_append_left z] at hg
    rw [pk_un (by omega)]
    exact hc.2.2 i g hg
  · have hi : i = cs.length := by
      have := (List.getElem?_eq_some_iff.mp hg).1
      simp at this
      omega
    subst hi
    rw [List.getElem?_append_right (Nat.le_refl _), Nat.sub_self] at hg
    have hg2 : ((3 : Int32), (0 : Int32)) = g := by simpa using hg
    subst hg2
    exact ⟨pk_us, if_neg (by decide)⟩
set_option maxRecDepth 100000 in
set_option maxHeartbeats 4000000 in
theorem c_Md_call {n m : Nat} {h : aH} {σ : Nat → Int32} {ν : Int64} {α : Nat → Nat → Int32} {ns : List Sf} {vs : List (List Int32)} {wf : Bool} {cs : List (Int32 × Int32)} {ps : List Pd} {ms : List Mg} {sl : List Nat} {pr : Int32} (hM : Md h m σ ν α) (hs : mSc σ α ns) (hv : mVa α 0 ns vs) (ew : σ 0 = bI wf) (hok : vOk ns vs) (hc : mCl σ α cs) (hp : mPd α cs ps sl) (hn : mNe σ α ms) : Con M_Md_call 4 0 0 n [.ref m, .int pr] h (mQ h m (fun r σ' ν' α' => r = some (.int (plcF wf ns vs cs ps ms pr).1) ∧ mCl σ' α' (plcF wf ns vs cs ps ms pr).2.1 ∧ (∃ sl', mPd α' (plcF wf ns vs cs ps ms pr).2.1 (plcF wf ns vs cs ps ms pr).2.2.1 sl') ∧ mNe σ' α' (plcF wf ns vs cs ps ms pr).2.2.2 ∧ sX [8, 10, 13, 25] σ σ' ∧ aX [6, 7, 8, 9, 10, 15, 17, 18, 19, 20] α α')) := by
  have h100 := hc.1
  have e25 : σ 25 = nI cs.length := hc.2.1
  refine Con.of rfl (Nat.le_of_ble_eq_true rfl) ?_
  refine T_iload_n (pc := 0) d_Md_call_0 rfl ?_
  refine T_if_lt (tgt := 11) (pc := 1) d_Md_call_1 (by decide) (fun q1 => ?_) (fun q1 => ?_)
  · have hbad : pr < 0 ∨ 255 < pr := by
      first
        | exact Or.inl q1
        | exact Or.inr (Int32.not_le.mp q8)
    have eF : plcF wf ns vs cs ps ms pr = (-4, cs, ps, ms) := if_pos hbad
    rw [eF]
    refine T_bipush (v := -4) (pc := 11) d_Md_call_11 rfl ?_
    refine T_iret (pc := 13) d_Md_call_13 rfl rfl (Nat.le_refl _) ?_
    exact ⟨_, _, _, hM, mdO.rf, rfl, hc, ⟨sl, hp⟩, hn, sX.rf, aX.rf⟩
  · refine T_iload_n (pc := 4) d_Md_call_4 rfl ?_
    refine T_sipush (v := 255) (pc := 5) d_Md_call_5 rfl ?_
    refine T_icmp_le (tgt := 14) (pc := 8) d_Md_call_8 (by decide) (fun q8 => ?_) (fun q8 => ?_)
    · refine T_aload_n (pc := 14) d_Md_call_14 rfl ?_
      refine T_iconst (v := -1) (pc := 15) d_Md_call_15 rfl ?_
      have q1' := q1
      refine T_ivV (pc := 16) d_Md_call_16 sI_Md_204 (c_Md_slotOf (x := -1) hM) hM.1 rfl rfl ⟨(Nat.le_of_ble_eq_true rfl), (Nat.le_of_ble_eq_true rfl)⟩ ⟨(Nat.le_of_ble_eq_true rfl), (Nat.le_of_ble_eq_true rfl)⟩ (Nat.le_of_ble_eq_true rfl) (fun r1 h1 q1 => ?_)
      obtain ⟨s, rfl, k1, k2, k3, e1⟩ := q1
      rw [e1]
      have hgood : ¬ (pr < 0 ∨ 255 < pr) := by
        rintro (z | z)
        · exact q1' z
        · exact absurd q8 (Int32.not_le.mpr z)
      refine T_istore_n (pc := 19) d_Md_call_19 rfl (Nat.le_of_ble_eq_true rfl) rfl ?_
      refine T_iload_n (pc := 20) d_Md_call_20 rfl ?_
      refine T_bipush (v := 8) (pc := 21) d_Md_call_21 rfl ?_
      refine T_icmp_eq (tgt := 35) (pc := 23) d_Md_call_23 (by decide) (fun q23 => ?_) (fun q23 => ?_)
      · have hfull : 8 ≤ ps.length ∨ 100 ≤ cs.length := by
          first
            | exact Or.inl (hp.full (fun z hz => k2 z (by have := (nI_eq (a := s) (b := 8) (by omega) (by decide)).mp q23; omega)))
            | (refine Or.inr ?_
               rw [e25] at q32
               have := (nI_eq (a := cs.length) (b := 100) (by omega) (by decide)).mp q32
               omega)
        have eF : plcF wf ns vs cs ps ms pr = (-5, cs, ps, ms) := by unfold plcF; rw [if_neg hgood, if_pos hfull]
        rw [eF]
        refine T_bipush (v := -5) (pc := 35) d_Md_call_35 rfl ?_
        refine T_iret (pc := 37) d_Md_call_37 rfl rfl (Nat.le_refl _) ?_
        exact ⟨_, _, _, hM, mdO.rf, rfl, hc, ⟨sl, hp⟩, hn, sX.rf, aX.rf⟩
      · refine T_aload_n (pc := 26) d_Md_call_26 rfl ?_
        refine T_get (pc := 27) d_Md_call_27 sF_Md_201_Md hM.1 rfl ?_
        refine T_bipush (v := 100) (pc := 30) d_Md_call_30 rfl ?_
        refine T_icmp_ne (tgt := 38) (pc := 32) d_Md_call_32 (by decide) (fun q32 => ?_) (fun q32 => ?_)
        · have hlt : cs.length < 100 := by
            rw [e25] at q32
            have : cs.length ≠ 100 := fun z => q32 (by rw [z]; rfl)
            omega
          have hs8 : s < 8 := by
            have : s ≠ 8 := fun z => q23 (by rw [z]; rfl)
            omega
          obtain ⟨hsl, h8⟩ := hp.free h100 hs8 (k3 hs8)
          have eF : plcF wf ns vs cs ps ms pr = (nI cs.length, cs ++ [(3, 0)], ps ++ [(nI cs.length, 0, reqB wf ns vs (nI cs.length) pr)], psh ms (reqB wf ns vs (nI cs.length) pr, true)) := by
            unfold plcF
            rw [if_neg hgood, if_neg (by omega)]
          rw [eF]
          exact c_Md_call_go hM hs hv ew hok hc hp hn hs8 hsl hlt (fun h' σ' ν' α' z1 z2 z3 z4 z5 z6 z7 => ⟨σ', ν', α', z1, z2, rfl, z3, ⟨_, z4⟩, z5, z6, z7⟩)
        · have hfull : 8 ≤ ps.length ∨ 100 ≤ cs.length := by
            first
              | exact Or.inl (hp.full (fun z hz => k2 z (by have := (nI_eq (a := s) (b := 8) (by omega) (by decide)).mp q23; omega)))
              | (refine Or.inr ?_
                 rw [e25] at q32
                 have := (nI_eq (a := cs.length) (b := 100) (by omega) (by decide)).mp q32
                 omega)
          have eF : plcF wf ns vs cs ps ms pr = (-5, cs, ps, ms) := by unfold plcF; rw [if_neg hgood, if_pos hfull]
          rw [eF]
          refine T_bipush (v := -5) (pc := 35) d_Md_call_35 rfl ?_
          refine T_iret (pc := 37) d_Md_call_37 rfl rfl (Nat.le_refl _) ?_
          exact ⟨_, _, _, hM, mdO.rf, rfl, hc, ⟨sl, hp⟩, hn, sX.rf, aX.rf⟩
    · have hbad : pr < 0 ∨ 255 < pr := by
        first
          | exact Or.inl q1
          | exact Or.inr (Int32.not_le.mp q8)
      have eF : plcF wf ns vs cs ps ms pr = (-4, cs, ps, ms) := if_pos hbad
      rw [eF]
      refine T_bipush (v := -4) (pc := 11) d_Md_call_11 rfl ?_
      refine T_iret (pc := 13) d_Md_call_13 rfl rfl (Nat.le_refl _) ?_
      exact ⟨_, _, _, hM, mdO.rf, rfl, hc, ⟨sl, hp⟩, hn, sX.rf, aX.rf⟩
